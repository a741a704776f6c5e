theorem dL_trim_11 : decode cL_trim 11 = .ok (.iconst 0, 1) := by decide +kernel
theorem dL_trim_12 : decode cL_trim 12 = .ok (.ireturn, 1) := by decide +kernel
theorem dL_trim_13 : decode cL_trim 13 = .ok (.iconst 0, 1) := by decide +kernel
theorem dL_trim_14 : decode cL_trim 14 = .ok (.istore 4, 2) := by decide +kernel
theorem dL_trim_16 : decode cL_trim 16 = .ok (.iconst 0, 1) := by decide +kernel
theorem dL_trim_17 : decode cL_trim 17 = .ok (.istore 5, 2) := by decide +kernel
theorem dL_trim_19 : decode cL_trim 19 = .ok (.iconst 0, 1) := by decide +kernel
theorem dL_trim_20 : decode cL_trim 20 = .ok (.istore 6, 2) := by decide +kernel
theorem dL_trim_22 : decode cL_trim 22 = .ok (.iload 6, 2) := by decide +kernel
theorem dL_trim_24 : decode cL_trim 24 = .ok (.bipush 17, 2) := by decide +kernel
theorem dL_trim_26 : decode cL_trim 26 = .ok (.if_icmp .ge 34, 3) := by decide +kernel
theorem dL_trim_29 : decode cL_trim 29 = .ok (.iload 4, 2) := by decide +kernel
theorem dL_trim_31 : decode cL_trim 31 = .ok (.aload_n 2, 1) := by decide +kernel
theorem dL_trim_32 : decode cL_trim 32 = .ok (.iload 6, 2) := by decide +kernel
theorem dL_trim_34 : decode cL_trim 34 = .ok (.iaload, 1) := by decide +kernel
theorem dL_trim_35 : decode cL_trim 35 = .ok (.iadd, 1) := by decide +kernel
theorem dL_trim_36 : decode cL_trim 36 = .ok (.istore 4, 2) := by decide +kernel
theorem dL_trim_38 : decode cL_trim 38 = .ok (.iload 5, 2) := by decide +kernel
theorem dL_trim_40 : decode cL_trim 40 = .ok (.iconst 2, 1) := by decide +kernel
theorem dL_trim_41 : decode cL_trim 41 = .ok (.aload_n 2, 1) := by decide +kernel
theorem dL_trim_42 : decode cL_trim 42 = .ok (.iload 6, 2) := by decide +kernel
theorem dL_trim_44 : decode cL_trim 44 = .ok (.iaload, 1) := by decide +kernel
theorem dL_trim_45 : decode cL_trim 45 = .ok (.imul, 1) := by decide +kernel
theorem dL_trim_46 : decode cL_trim 46 = .ok (.aload_n 1, 1) := by decide +kernel
theorem dL_trim_47 : decode cL_trim 47 = .ok (.iload 6, 2) := by decide +kernel
theorem dL_trim_49 : decode cL_trim 49 = .ok (.iaload, 1) := by decide +kernel
theorem dL_trim_50 : decode cL_trim 50 = .ok (.imul, 1) := by decide +kernel
theorem dL_trim_51 : decode cL_trim 51 = .ok (.iadd, 1) := by decide +kernel
theorem dL_trim_52 : decode cL_trim 52 = .ok (.istore 5, 2) := by decide +kernel
theorem dL_trim_54 : decode cL_trim 54 = .ok (.iinc 6 1, 3) := by decide +kernel
theorem dL_trim_57 : decode cL_trim 57 = .ok (.goto (-35), 3) := by decide +kernel
theorem dL_trim_60 : decode cL_trim 60 = .ok (.iload_n 3, 1) := by decide +kernel
theorem dL_trim_61 : decode cL_trim 61 = .ok (.aload_n 0, 1) := by decide +kernel
theorem dL_trim_62 : decode cL_trim 62 = .ok (.iconst 0, 1) := by decide +kernel
theorem dL_trim_63 : decode cL_trim 63 = .ok (.invokestatic 84, 3) := by decide +kernel
theorem dL_trim_66 : decode cL_trim 66 = .ok (.istore 6, 2) := by decide +kernel
theorem dL_trim_68 : decode cL_trim 68 = .ok (.iload 4, 2) := by decide +kernel
theorem dL_trim_70 : decode cL_trim 70 = .ok (.ifCond .ne 7, 3) := by decide +kernel
theorem dL_trim_73 : decode cL_trim 73 = .ok (.iconst 0, 1) := by decide +kernel
theorem dL_trim_74 : decode cL_trim 74 = .ok (.goto 11, 3) := by decide +kernel
theorem dL_trim_77 : decode cL_trim 77 = .ok (.bipush 100, 2) := by decide +kernel
theorem dL_trim_79 : decode cL_trim 79 = .ok (.iload 5, 2) := by decide +kernel
theorem dL_trim_81 : decode cL_trim 81 = .ok (.imul, 1) := by decide +kernel
theorem dL_trim_82 : decode cL_trim 82 = .ok (.iload 4, 2) := by decide +kernel
theorem dL_trim_84 : decode cL_trim 84 = .ok (.idiv, 1) := by decide +kernel
theorem dL_trim_85 : decode cL_trim 85 = .ok (.iload 6, 2) := by decide +kernel
theorem dL_trim_87 : decode cL_trim 87 = .ok (.ifCond .ne 7, 3) := by decide +kernel
theorem dL_trim_90 : decode cL_trim 90 = .ok (.iconst 0, 1) := by decide +kernel
theorem dL_trim_91 : decode cL_trim 91 = .ok (.goto 15, 3) := by decide +kernel
theorem dL_trim_94 : decode cL_trim 94 = .ok (.bipush 100, 2) := by decide +kernel
theorem dL_trim_96 : decode cL_trim 96 = .ok (.iload_n 3, 1) := by decide +kernel
theorem dL_trim_97 : decode cL_trim 97 = .ok (.aload_n 0, 1) := by decide +kernel
theorem dL_trim_98 : decode cL_trim 98 = .ok (.iconst 1, 1) := by decide +kernel
theorem dL_trim_99 : decode cL_trim 99 = .ok (.invokestatic 84, 3) := by decide +kernel
theorem dL_trim_102 : decode cL_trim 102 = .ok (.imul, 1) := by decide +kernel
theorem dL_trim_103 : decode cL_trim 103 = .ok (.iload 6, 2) := by decide +kernel
theorem dL_trim_105 : decode cL_trim 105 = .ok (.idiv, 1) := by decide +kernel
theorem dL_trim_106 : decode cL_trim 106 = .ok (.isub, 1) := by decide +kernel
theorem dL_trim_107 : decode cL_trim 107 = .ok (.ireturn, 1) := by decide +kernel
theorem dL_size_0 : decode cL_size 0 = .ok (.iload_n 0, 1) := by decide +kernel
theorem dL_size_1 : decode cL_size 1 = .ok (.ifCond .ge 8, 3) := by decide +kernel
theorem dL_size_4 : decode cL_size 4 = .ok (.iload_n 0, 1) := by decide +kernel
theorem dL_size_5 : decode cL_size 5 = .ok (.ineg, 1) := by decide +kernel
theorem dL_size_6 : decode cL_size 6 = .ok (.goto 4, 3) := by decide +kernel
theorem dL_size_9 : decode cL_size 9 = .ok (.iload_n 0, 1) := by decide +kernel
theorem dL_size_10 : decode cL_size 10 = .ok (.ireturn, 1) := by decide +kernel
set_option maxRecDepth 20000 in
theorem ggL_strakeOf_L_size : GoodIn wsL_strakeOf wsL_size := goodIn_r _ [4] (by decide +kernel) (by decide +kernel)
set_option maxRecDepth 20000 in
theorem gL_strakeOf_L_size : GoodIn wsL_strakeOf (va_wsS RL 92 yL_size wsL_size) := goodIn_app (goodIn_of _ (by decide +kernel)) ggL_strakeOf_L_size
theorem dL_strakeOf_0 : decode cL_strakeOf 0 = .ok (.bipush 80, 2) := by decide +kernel
theorem dL_strakeOf_2 : decode cL_strakeOf 2 = .ok (.istore_n 2, 1) := by decide +kernel
theorem dL_strakeOf_3 : decode cL_strakeOf 3 = .ok (.bipush 9, 2) := by decide +kernel
theorem dL_strakeOf_5 : decode cL_strakeOf 5 = .ok (.iload_n 0, 1) := by decide +kernel
theorem dL_strakeOf_6 : decode cL_strakeOf 6 = .ok (.imul, 1) := by decide +kernel
theorem dL_strakeOf_7 : decode cL_strakeOf 7 = .ok (.istore_n 3, 1) := by decide +kernel
theorem dL_strakeOf_8 : decode cL_strakeOf 8 = .ok (.iload_n 3, 1) := by decide +kernel
theorem dL_strakeOf_9 : decode cL_strakeOf 9 = .ok (.bipush 9, 2) := by decide +kernel
theorem dL_strakeOf_11 : decode cL_strakeOf 11 = .ok (.iload_n 0, 1) := by decide +kernel
theorem dL_strakeOf_12 : decode cL_strakeOf 12 = .ok (.imul, 1) := by decide +kernel
theorem dL_strakeOf_13 : decode cL_strakeOf 13 = .ok (.bipush 8, 2) := by decide +kernel
theorem dL_strakeOf_15 : decode cL_strakeOf 15 = .ok (.iadd, 1) := by decide +kernel
theorem dL_strakeOf_16 : decode cL_strakeOf 16 = .ok (.if_icmp .ge 24, 3) := by decide +kernel
theorem dL_strakeOf_19 : decode cL_strakeOf 19 = .ok (.iload_n 2, 1) := by decide +kernel
theorem dL_strakeOf_20 : decode cL_strakeOf 20 = .ok (.aload_n 1, 1) := by decide +kernel
theorem dL_strakeOf_21 : decode cL_strakeOf 21 = .ok (.iload_n 3, 1) := by decide +kernel
theorem dL_strakeOf_22 : decode cL_strakeOf 22 = .ok (.iaload, 1) := by decide +kernel
theorem dL_strakeOf_23 : decode cL_strakeOf 23 = .ok (.aload_n 1, 1) := by decide +kernel
theorem dL_strakeOf_24 : decode cL_strakeOf 24 = .ok (.iload_n 3, 1) := by decide +kernel
theorem dL_strakeOf_25 : decode cL_strakeOf 25 = .ok (.iconst 1, 1) := by decide +kernel
theorem dL_strakeOf_26 : decode cL_strakeOf 26 = .ok (.iadd, 1) := by decide +kernel
theorem dL_strakeOf_27 : decode cL_strakeOf 27 = .ok (.iaload, 1) := by decide +kernel
theorem dL_strakeOf_28 : decode cL_strakeOf 28 = .ok (.isub, 1) := by decide +kernel
theorem dL_strakeOf_29 : decode cL_strakeOf 29 = .ok (.invokestatic 92, 3) := by decide +kernel
theorem dL_strakeOf_32 : decode cL_strakeOf 32 = .ok (.iadd, 1) := by decide +kernel
theorem dL_strakeOf_33 : decode cL_strakeOf 33 = .ok (.istore_n 2, 1) := by decide +kernel
theorem dL_strakeOf_34 : decode cL_strakeOf 34 = .ok (.iinc 3 1, 3) := by decide +kernel
theorem dL_strakeOf_37 : decode cL_strakeOf 37 = .ok (.goto (-29), 3) := by decide +kernel
theorem dL_strakeOf_40 : decode cL_strakeOf 40 = .ok (.iload_n 2, 1) := by decide +kernel
theorem dL_strakeOf_41 : decode cL_strakeOf 41 = .ok (.ireturn, 1) := by decide +kernel
set_option maxRecDepth 20000 in
theorem ggL_planksOf_L_strakeOf : GoodIn wsL_planksOf wsL_strakeOf := goodIn_r _ [5, 6, 7, 4, 8] (by decide +kernel) (by decide +kernel)
set_option maxRecDepth 20000 in
theorem gL_planksOf_L_strakeOf : GoodIn wsL_planksOf (va_wsS RL 95 yL_strakeOf wsL_strakeOf) := goodIn_app (goodIn_of _ (by decide +kernel)) ggL_planksOf_L_strakeOf
theorem dL_planksOf_0 : decode cL_planksOf 0 = .ok (.bipush 64, 2) := by decide +kernel
theorem dL_planksOf_2 : decode cL_planksOf 2 = .ok (.newarray .int, 2) := by decide +kernel
theorem dL_planksOf_4 : decode cL_planksOf 4 = .ok (.astore_n 3, 1) := by decide +kernel
theorem dL_planksOf_5 : decode cL_planksOf 5 = .ok (.iconst 0, 1) := by decide +kernel
theorem dL_planksOf_6 : decode cL_planksOf 6 = .ok (.istore 4, 2) := by decide +kernel
theorem dL_planksOf_8 : decode cL_planksOf 8 = .ok (.iconst (-1), 1) := by decide +kernel
theorem dL_planksOf_9 : decode cL_planksOf 9 = .ok (.istore 5, 2) := by decide +kernel
theorem dL_planksOf_11 : decode cL_planksOf 11 = .ok (.iconst 0, 1) := by decide +kernel
theorem dL_planksOf_12 : decode cL_planksOf 12 = .ok (.istore 6, 2) := by decide +kernel
theorem dL_planksOf_14 : decode cL_planksOf 14 = .ok (.iload 6, 2) := by decide +kernel
theorem dL_planksOf_16 : decode cL_planksOf 16 = .ok (.sipush 1023, 3) := by decide +kernel
theorem dL_planksOf_19 : decode cL_planksOf 19 = .ok (.if_icmp .ge 159, 3) := by decide +kernel
theorem dL_planksOf_22 : decode cL_planksOf 22 = .ok (.iconst (-1), 1) := by decide +kernel
theorem dL_planksOf_23 : decode cL_planksOf 23 = .ok (.istore 7, 2) := by decide +kernel
theorem dL_planksOf_25 : decode cL_planksOf 25 = .ok (.bipush 9, 2) := by decide +kernel
theorem dL_planksOf_27 : decode cL_planksOf 27 = .ok (.istore 8, 2) := by decide +kernel
theorem dL_planksOf_29 : decode cL_planksOf 29 = .ok (.iload 8, 2) := by decide +kernel
theorem dL_planksOf_31 : decode cL_planksOf 31 = .ok (.ifCond .lt 48, 3) := by decide +kernel
theorem dL_planksOf_34 : decode cL_planksOf 34 = .ok (.iload 6, 2) := by decide +kernel
theorem dL_planksOf_36 : decode cL_planksOf 36 = .ok (.iload 8, 2) := by decide +kernel
theorem dL_planksOf_38 : decode cL_planksOf 38 = .ok (.ishr, 1) := by decide +kernel
theorem dL_planksOf_39 : decode cL_planksOf 39 = .ok (.iconst 1, 1) := by decide +kernel
theorem dL_planksOf_40 : decode cL_planksOf 40 = .ok (.iand, 1) := by decide +kernel
theorem dL_planksOf_41 : decode cL_planksOf 41 = .ok (.ifCond .ne 32, 3) := by decide +kernel
theorem dL_planksOf_44 : decode cL_planksOf 44 = .ok (.iload 7, 2) := by decide +kernel
theorem dL_planksOf_46 : decode cL_planksOf 46 = .ok (.iconst (-1), 1) := by decide +kernel
theorem dL_planksOf_47 : decode cL_planksOf 47 = .ok (.if_icmp .eq 22, 3) := by decide +kernel
theorem dL_planksOf_50 : decode cL_planksOf 50 = .ok (.iload 8, 2) := by decide +kernel
theorem dL_planksOf_52 : decode cL_planksOf 52 = .ok (.iconst 2, 1) := by decide +kernel
theorem dL_planksOf_53 : decode cL_planksOf 53 = .ok (.idiv, 1) := by decide +kernel
theorem dL_planksOf_54 : decode cL_planksOf 54 = .ok (.aload_n 1, 1) := by decide +kernel
theorem dL_planksOf_55 : decode cL_planksOf 55 = .ok (.invokestatic 95, 3) := by decide +kernel
theorem dL_planksOf_58 : decode cL_planksOf 58 = .ok (.iload 7, 2) := by decide +kernel
theorem dL_planksOf_60 : decode cL_planksOf 60 = .ok (.iconst 2, 1) := by decide +kernel
theorem dL_planksOf_61 : decode cL_planksOf 61 = .ok (.idiv, 1) := by decide +kernel
theorem dL_planksOf_62 : decode cL_planksOf 62 = .ok (.aload_n 1, 1) := by decide +kernel
theorem dL_planksOf_63 : decode cL_planksOf 63 = .ok (.invokestatic 95, 3) := by decide +kernel
theorem dL_planksOf_66 : decode cL_planksOf 66 = .ok (.if_icmp .lt 7, 3) := by decide +kernel
theorem dL_planksOf_69 : decode cL_planksOf 69 = .ok (.iload 8, 2) := by decide +kernel
theorem dL_planksOf_71 : decode cL_planksOf 71 = .ok (.istore 7, 2) := by decide +kernel
theorem dL_planksOf_73 : decode cL_planksOf 73 = .ok (.iinc 8 (-1), 3) := by decide +kernel
theorem dL_planksOf_76 : decode cL_planksOf 76 = .ok (.goto (-47), 3) := by decide +kernel
theorem dL_planksOf_79 : decode cL_planksOf 79 = .ok (.iload 7, 2) := by decide +kernel
theorem dL_planksOf_81 : decode cL_planksOf 81 = .ok (.iconst 2, 1) := by decide +kernel
theorem dL_planksOf_82 : decode cL_planksOf 82 = .ok (.idiv, 1) := by decide +kernel
theorem dL_planksOf_83 : decode cL_planksOf 83 = .ok (.aload_n 1, 1) := by decide +kernel
theorem dL_planksOf_84 : decode cL_planksOf 84 = .ok (.invokestatic 95, 3) := by decide +kernel
theorem dL_planksOf_87 : decode cL_planksOf 87 = .ok (.istore 8, 2) := by decide +kernel
theorem dL_planksOf_89 : decode cL_planksOf 89 = .ok (.iload 8, 2) := by decide +kernel
theorem dL_planksOf_91 : decode cL_planksOf 91 = .ok (.iload_n 2, 1) := by decide +kernel
theorem dL_planksOf_92 : decode cL_planksOf 92 = .ok (.if_icmp .le 15, 3) := by decide +kernel
theorem dL_planksOf_95 : decode cL_planksOf 95 = .ok (.iinc 4 1, 3) := by decide +kernel
theorem dL_planksOf_98 : decode cL_planksOf 98 = .ok (.iload 8, 2) := by decide +kernel
theorem dL_planksOf_100 : decode cL_planksOf 100 = .ok (.iload_n 2, 1) := by decide +kernel
theorem dL_planksOf_101 : decode cL_planksOf 101 = .ok (.isub, 1) := by decide +kernel
theorem dL_planksOf_102 : decode cL_planksOf 102 = .ok (.istore 8, 2) := by decide +kernel
theorem dL_planksOf_104 : decode cL_planksOf 104 = .ok (.goto (-15), 3) := by decide +kernel
theorem dL_planksOf_107 : decode cL_planksOf 107 = .ok (.iconst 0, 1) := by decide +kernel
theorem dL_planksOf_108 : decode cL_planksOf 108 = .ok (.istore 9, 2) := by decide +kernel
theorem dL_planksOf_110 : decode cL_planksOf 110 = .ok (.iload 9, 2) := by decide +kernel
theorem dL_planksOf_112 : decode cL_planksOf 112 = .ok (.iload 4, 2) := by decide +kernel
theorem dL_planksOf_114 : decode cL_planksOf 114 = .ok (.if_icmp .ge 18, 3) := by decide +kernel
theorem dL_planksOf_117 : decode cL_planksOf 117 = .ok (.aload_n 3, 1) := by decide +kernel
theorem dL_planksOf_118 : decode cL_planksOf 118 = .ok (.iload 9, 2) := by decide +kernel
theorem dL_planksOf_120 : decode cL_planksOf 120 = .ok (.iaload, 1) := by decide +kernel
theorem dL_planksOf_121 : decode cL_planksOf 121 = .ok (.iload 8, 2) := by decide +kernel
theorem dL_planksOf_123 : decode cL_planksOf 123 = .ok (.if_icmp .ge 9, 3) := by decide +kernel
theorem dL_planksOf_126 : decode cL_planksOf 126 = .ok (.iinc 9 1, 3) := by decide +kernel
theorem dL_planksOf_129 : decode cL_planksOf 129 = .ok (.goto (-19), 3) := by decide +kernel
theorem dL_planksOf_132 : decode cL_planksOf 132 = .ok (.iload 9, 2) := by decide +kernel
theorem dL_planksOf_134 : decode cL_planksOf 134 = .ok (.iload 4, 2) := by decide +kernel
theorem dL_planksOf_136 : decode cL_planksOf 136 = .ok (.if_icmp .ne 11, 3) := by decide +kernel
theorem dL_planksOf_139 : decode cL_planksOf 139 = .ok (.aload_n 3, 1) := by decide +kernel
theorem dL_planksOf_140 : decode cL_planksOf 140 = .ok (.iload 4, 2) := by decide +kernel
theorem dL_planksOf_142 : decode cL_planksOf 142 = .ok (.iinc 4 1, 3) := by decide +kernel
theorem dL_planksOf_145 : decode cL_planksOf 145 = .ok (.iload_n 2, 1) := by decide +kernel
theorem dL_planksOf_146 : decode cL_planksOf 146 = .ok (.iastore, 1) := by decide +kernel
theorem dL_planksOf_147 : decode cL_planksOf 147 = .ok (.aload_n 3, 1) := by decide +kernel
theorem dL_planksOf_148 : decode cL_planksOf 148 = .ok (.iload 9, 2) := by decide +kernel
theorem dL_planksOf_150 : decode cL_planksOf 150 = .ok (.dup2, 1) := by decide +kernel
theorem dL_planksOf_151 : decode cL_planksOf 151 = .ok (.iaload, 1) := by decide +kernel
theorem dL_planksOf_152 : decode cL_planksOf 152 = .ok (.iload 8, 2) := by decide +kernel
theorem dL_planksOf_154 : decode cL_planksOf 154 = .ok (.isub, 1) := by decide +kernel
theorem dL_planksOf_155 : decode cL_planksOf 155 = .ok (.iastore, 1) := by decide +kernel
theorem dL_planksOf_156 : decode cL_planksOf 156 = .ok (.iload 7, 2) := by decide +kernel
theorem dL_planksOf_158 : decode cL_planksOf 158 = .ok (.iload_n 0, 1) := by decide +kernel
theorem dL_planksOf_159 : decode cL_planksOf 159 = .ok (.if_icmp .ne 7, 3) := by decide +kernel
theorem dL_planksOf_162 : decode cL_planksOf 162 = .ok (.iload 9, 2) := by decide +kernel
theorem dL_planksOf_164 : decode cL_planksOf 164 = .ok (.istore 5, 2) := by decide +kernel
theorem dL_planksOf_166 : decode cL_planksOf 166 = .ok (.iload 6, 2) := by decide +kernel
theorem dL_planksOf_168 : decode cL_planksOf 168 = .ok (.iconst 1, 1) := by decide +kernel
theorem dL_planksOf_169 : decode cL_planksOf 169 = .ok (.iload 7, 2) := by decide +kernel
theorem dL_planksOf_171 : decode cL_planksOf 171 = .ok (.ishl, 1) := by decide +kernel
theorem dL_planksOf_172 : decode cL_planksOf 172 = .ok (.ior, 1) := by decide +kernel
theorem dL_planksOf_173 : decode cL_planksOf 173 = .ok (.istore 6, 2) := by decide +kernel
theorem dL_planksOf_175 : decode cL_planksOf 175 = .ok (.goto (-161), 3) := by decide +kernel
theorem dL_planksOf_178 : decode cL_planksOf 178 = .ok (.iload_n 0, 1) := by decide +kernel
theorem dL_planksOf_179 : decode cL_planksOf 179 = .ok (.iconst (-1), 1) := by decide +kernel
theorem dL_planksOf_180 : decode cL_planksOf 180 = .ok (.if_icmp .ne 8, 3) := by decide +kernel
theorem dL_planksOf_183 : decode cL_planksOf 183 = .ok (.iload 4, 2) := by decide +kernel
theorem dL_planksOf_185 : decode cL_planksOf 185 = .ok (.goto 5, 3) := by decide +kernel
theorem dL_planksOf_188 : decode cL_planksOf 188 = .ok (.iload 5, 2) := by decide +kernel
theorem dL_planksOf_190 : decode cL_planksOf 190 = .ok (.ireturn, 1) := by decide +kernel
theorem dL_tideOn_0 : decode cL_tideOn 0 = .ok (.iconst 0, 1) := by decide +kernel
theorem dL_tideOn_1 : decode cL_tideOn 1 = .ok (.istore 4, 2) := by decide +kernel
theorem dL_tideOn_3 : decode cL_tideOn 3 = .ok (.iload 4, 2) := by decide +kernel
theorem dL_tideOn_5 : decode cL_tideOn 5 = .ok (.aload_n 3, 1) := by decide +kernel
theorem dL_tideOn_6 : decode cL_tideOn 6 = .ok (.iconst 5, 1) := by decide +kernel
theorem dL_tideOn_7 : decode cL_tideOn 7 = .ok (.iaload, 1) := by decide +kernel
theorem dL_tideOn_8 : decode cL_tideOn 8 = .ok (.if_icmp .ge 22, 3) := by decide +kernel
theorem dL_tideOn_11 : decode cL_tideOn 11 = .ok (.aload_n 1, 1) := by decide +kernel
theorem dL_tideOn_12 : decode cL_tideOn 12 = .ok (.iload 4, 2) := by decide +kernel
theorem dL_tideOn_14 : decode cL_tideOn 14 = .ok (.iaload, 1) := by decide +kernel
theorem dL_tideOn_15 : decode cL_tideOn 15 = .ok (.iload_n 0, 1) := by decide +kernel
theorem dL_tideOn_16 : decode cL_tideOn 16 = .ok (.if_icmp .ne 8, 3) := by decide +kernel
theorem dL_tideOn_19 : decode cL_tideOn 19 = .ok (.aload_n 2, 1) := by decide +kernel
theorem dL_tideOn_20 : decode cL_tideOn 20 = .ok (.iload 4, 2) := by decide +kernel
theorem dL_tideOn_22 : decode cL_tideOn 22 = .ok (.iaload, 1) := by decide +kernel
theorem dL_tideOn_23 : decode cL_tideOn 23 = .ok (.ireturn, 1) := by decide +kernel
theorem dL_tideOn_24 : decode cL_tideOn 24 = .ok (.iinc 4 1, 3) := by decide +kernel
theorem dL_tideOn_27 : decode cL_tideOn 27 = .ok (.goto (-24), 3) := by decide +kernel
theorem dL_tideOn_30 : decode cL_tideOn 30 = .ok (.bipush 7, 2) := by decide +kernel
theorem dL_tideOn_32 : decode cL_tideOn 32 = .ok (.iload_n 0, 1) := by decide +kernel
theorem dL_tideOn_33 : decode cL_tideOn 33 = .ok (.imul, 1) := by decide +kernel
theorem dL_tideOn_34 : decode cL_tideOn 34 = .ok (.iconst 3, 1) := by decide +kernel
theorem dL_tideOn_35 : decode cL_tideOn 35 = .ok (.iadd, 1) := by decide +kernel
theorem dL_tideOn_36 : decode cL_tideOn 36 = .ok (.bipush 19, 2) := by decide +kernel
theorem dL_tideOn_38 : decode cL_tideOn 38 = .ok (.irem, 1) := by decide +kernel
theorem dL_tideOn_39 : decode cL_tideOn 39 = .ok (.ireturn, 1) := by decide +kernel
set_option maxRecDepth 20000 in
theorem ggL_needed_L_draught : GoodIn wsL_needed wsL_draught := goodIn_r _ [4, 5, 6, 3, 7] (by decide +kernel) (by decide +kernel)
set_option maxRecDepth 20000 in
theorem gL_needed_L_draught : GoodIn wsL_needed (va_wsS RL 88 yL_draught wsL_draught) := goodIn_app (goodIn_of _ (by decide +kernel)) ggL_needed_L_draught
set_option maxRecDepth 20000 in
theorem ggL_needed_L_trim : GoodIn wsL_needed wsL_trim := goodIn_r _ [10, 1, 2, 3, 4, 5, 6, 7] (by decide +kernel) (by decide +kernel)
set_option maxRecDepth 20000 in
theorem gL_needed_L_trim : GoodIn wsL_needed (va_wsS RL 99 yL_trim wsL_trim) := goodIn_app (goodIn_of _ (by decide +kernel)) ggL_needed_L_trim
set_option maxRecDepth 20000 in
theorem ggL_needed_L_size : GoodIn wsL_needed wsL_size := goodIn_r _ [13] (by decide +kernel) (by decide +kernel)
set_option maxRecDepth 20000 in
theorem gL_needed_L_size : GoodIn wsL_needed (va_wsS RL 92 yL_size wsL_size) := goodIn_app (goodIn_of _ (by decide +kernel)) ggL_needed_L_size
theorem dL_needed_0 : decode cL_needed 0 = .ok (.aload_n 0, 1) := by decide +kernel
theorem dL_needed_1 : decode cL_needed 1 = .ok (.aload_n 2, 1) := by decide +kernel
theorem dL_needed_2 : decode cL_needed 2 = .ok (.invokestatic 88, 3) := by decide +kernel
theorem dL_needed_5 : decode cL_needed 5 = .ok (.istore 4, 2) := by decide +kernel
theorem dL_needed_7 : decode cL_needed 7 = .ok (.iload 4, 2) := by decide +kernel
theorem dL_needed_9 : decode cL_needed 9 = .ok (.iconst (-1), 1) := by decide +kernel
theorem dL_needed_10 : decode cL_needed 10 = .ok (.if_icmp .ne 7, 3) := by decide +kernel
theorem dL_needed_13 : decode cL_needed 13 = .ok (.iconst (-1), 1) := by decide +kernel
theorem dL_needed_14 : decode cL_needed 14 = .ok (.goto 25, 3) := by decide +kernel
theorem dL_needed_17 : decode cL_needed 17 = .ok (.bipush 10, 2) := by decide +kernel
theorem dL_needed_19 : decode cL_needed 19 = .ok (.iload 4, 2) := by decide +kernel
theorem dL_needed_21 : decode cL_needed 21 = .ok (.imul, 1) := by decide +kernel
theorem dL_needed_22 : decode cL_needed 22 = .ok (.aload_n 3, 1) := by decide +kernel
theorem dL_needed_23 : decode cL_needed 23 = .ok (.iconst 2, 1) := by decide +kernel
theorem dL_needed_24 : decode cL_needed 24 = .ok (.iaload, 1) := by decide +kernel
theorem dL_needed_25 : decode cL_needed 25 = .ok (.iadd, 1) := by decide +kernel
theorem dL_needed_26 : decode cL_needed 26 = .ok (.aload_n 0, 1) := by decide +kernel
theorem dL_needed_27 : decode cL_needed 27 = .ok (.aload_n 1, 1) := by decide +kernel
theorem dL_needed_28 : decode cL_needed 28 = .ok (.aload_n 2, 1) := by decide +kernel
theorem dL_needed_29 : decode cL_needed 29 = .ok (.invokestatic 99, 3) := by decide +kernel
theorem dL_needed_32 : decode cL_needed 32 = .ok (.invokestatic 92, 3) := by decide +kernel
theorem dL_needed_35 : decode cL_needed 35 = .ok (.bipush 10, 2) := by decide +kernel
theorem dL_needed_37 : decode cL_needed 37 = .ok (.idiv, 1) := by decide +kernel
theorem dL_needed_38 : decode cL_needed 38 = .ok (.iadd, 1) := by decide +kernel
theorem dL_needed_39 : decode cL_needed 39 = .ok (.ireturn, 1) := by decide +kernel
set_option maxRecDepth 20000 in
theorem ggL_dayOf_L_needed : GoodIn wsL_dayOf wsL_needed := goodIn_r _ [4, 5, 6, 3, 7, 8, 9, 10, 11, 12, 13, 14, 15, 16] (by decide +kernel) (by decide +kernel)
set_option maxRecDepth 20000 in
theorem gL_dayOf_L_needed : GoodIn wsL_dayOf (va_wsS RL 103 yL_needed wsL_needed) := goodIn_app (goodIn_of _ (by decide +kernel)) ggL_dayOf_L_needed
set_option maxRecDepth 20000 in
theorem ggL_dayOf_L_tideOn : GoodIn wsL_dayOf wsL_tideOn := goodIn_r _ [19] (by decide +kernel) (by decide +kernel)
set_option maxRecDepth 20000 in
theorem gL_dayOf_L_tideOn : GoodIn wsL_dayOf (va_wsS RL 107 yL_tideOn wsL_tideOn) := goodIn_app (goodIn_of _ (by decide +kernel)) ggL_dayOf_L_tideOn
theorem dL_dayOf_0 : decode cL_dayOf 0 = .ok (.aload_n 0, 1) := by decide +kernel
theorem dL_dayOf_1 : decode cL_dayOf 1 = .ok (.aload_n 1, 1) := by decide +kernel
theorem dL_dayOf_2 : decode cL_dayOf 2 = .ok (.aload_n 2, 1) := by decide +kernel
theorem dL_dayOf_3 : decode cL_dayOf 3 = .ok (.aload 5, 2) := by decide +kernel
theorem dL_dayOf_5 : decode cL_dayOf 5 = .ok (.invokestatic 103, 3) := by decide +kernel
theorem dL_dayOf_8 : decode cL_dayOf 8 = .ok (.istore 6, 2) := by decide +kernel
theorem dL_dayOf_10 : decode cL_dayOf 10 = .ok (.aload 5, 2) := by decide +kernel
theorem dL_dayOf_12 : decode cL_dayOf 12 = .ok (.iconst 3, 1) := by decide +kernel
theorem dL_dayOf_13 : decode cL_dayOf 13 = .ok (.iaload, 1) := by decide +kernel
theorem dL_dayOf_14 : decode cL_dayOf 14 = .ok (.istore 7, 2) := by decide +kernel
theorem dL_dayOf_16 : decode cL_dayOf 16 = .ok (.iload 7, 2) := by decide +kernel
theorem dL_dayOf_18 : decode cL_dayOf 18 = .ok (.aload 5, 2) := by decide +kernel
theorem dL_dayOf_20 : decode cL_dayOf 20 = .ok (.iconst 3, 1) := by decide +kernel
theorem dL_dayOf_21 : decode cL_dayOf 21 = .ok (.iaload, 1) := by decide +kernel
theorem dL_dayOf_22 : decode cL_dayOf 22 = .ok (.bipush 100, 2) := by decide +kernel
theorem dL_dayOf_24 : decode cL_dayOf 24 = .ok (.iadd, 1) := by decide +kernel
theorem dL_dayOf_25 : decode cL_dayOf 25 = .ok (.if_icmp .ge 40, 3) := by decide +kernel
theorem dL_dayOf_28 : decode cL_dayOf 28 = .ok (.iload 6, 2) := by decide +kernel
theorem dL_dayOf_30 : decode cL_dayOf 30 = .ok (.iconst (-1), 1) := by decide +kernel
theorem dL_dayOf_31 : decode cL_dayOf 31 = .ok (.if_icmp .eq 28, 3) := by decide +kernel
theorem dL_dayOf_34 : decode cL_dayOf 34 = .ok (.aload 5, 2) := by decide +kernel
theorem dL_dayOf_36 : decode cL_dayOf 36 = .ok (.iconst 4, 1) := by decide +kernel
theorem dL_dayOf_37 : decode cL_dayOf 37 = .ok (.iaload, 1) := by decide +kernel
theorem dL_dayOf_38 : decode cL_dayOf 38 = .ok (.ifCond .ne 21, 3) := by decide +kernel
theorem dL_dayOf_41 : decode cL_dayOf 41 = .ok (.iload 7, 2) := by decide +kernel
theorem dL_dayOf_43 : decode cL_dayOf 43 = .ok (.aload_n 3, 1) := by decide +kernel
theorem dL_dayOf_44 : decode cL_dayOf 44 = .ok (.aload 4, 2) := by decide +kernel
theorem dL_dayOf_46 : decode cL_dayOf 46 = .ok (.aload 5, 2) := by decide +kernel
theorem dL_dayOf_48 : decode cL_dayOf 48 = .ok (.invokestatic 107, 3) := by decide +kernel
theorem dL_dayOf_51 : decode cL_dayOf 51 = .ok (.iload 6, 2) := by decide +kernel
theorem dL_dayOf_53 : decode cL_dayOf 53 = .ok (.if_icmp .lt 6, 3) := by decide +kernel
theorem dL_dayOf_56 : decode cL_dayOf 56 = .ok (.iload 7, 2) := by decide +kernel
theorem dL_dayOf_58 : decode cL_dayOf 58 = .ok (.ireturn, 1) := by decide +kernel
theorem dL_dayOf_59 : decode cL_dayOf 59 = .ok (.iinc 7 1, 3) := by decide +kernel
theorem dL_dayOf_62 : decode cL_dayOf 62 = .ok (.goto (-46), 3) := by decide +kernel
theorem dL_dayOf_65 : decode cL_dayOf 65 = .ok (.iconst (-1), 1) := by decide +kernel
theorem dL_dayOf_66 : decode cL_dayOf 66 = .ok (.ireturn, 1) := by decide +kernel
set_option maxRecDepth 20000 in
theorem ggL_isTold_L_half : GoodIn wsL_isTold wsL_half := goodIn_ca (goodIn_r _ [4, 5, 6, 7, 8, 9, 10, 11, 12, 13, 14, 15, 16, 17, 18, 19, 20, 229, 230, 231, 232, 233, 234, 235, 236, 237, 238] (by decide +kernel) (by decide +kernel)) (goodIn_sub (fun _ h => List.mem_cons_of_mem _ (List.mem_append_right _ h)) (by decide +kernel))
set_option maxRecDepth 20000 in
theorem gL_isTold_L_half : GoodIn wsL_isTold (va_wsS RL 111 yL_half wsL_half) := goodIn_app (goodIn_of _ (by decide +kernel)) ggL_isTold_L_half
set_option maxRecDepth 20000 in
theorem ggL_isTold_L_bend : GoodIn wsL_isTold wsL_bend := goodIn_ca (goodIn_r _ [23, 5, 6, 24, 25, 26, 10, 27, 12, 18, 19, 20, 16, 17, 28, 29, 30, 31, 32, 33, 229, 230, 231, 232, 233, 234, 235, 236, 237, 238] (by decide +kernel) (by decide +kernel)) (goodIn_sub (fun _ h => List.mem_cons_of_mem _ (List.mem_append_right _ h)) (by decide +kernel))
set_option maxRecDepth 20000 in
theorem gL_isTold_L_bend : GoodIn wsL_isTold (va_wsS RL 114 yL_bend wsL_bend) := goodIn_app (goodIn_of _ (by decide +kernel)) ggL_isTold_L_bend
set_option maxRecDepth 20000 in
theorem ggL_isTold_L_bendOf : GoodIn wsL_isTold wsL_bendOf := goodIn_r _ [36] (by decide +kernel) (by decide +kernel)
set_option maxRecDepth 20000 in
theorem gL_isTold_L_bendOf : GoodIn wsL_isTold (va_wsS RL 117 yL_bendOf wsL_bendOf) := goodIn_app (goodIn_of _ (by decide +kernel)) ggL_isTold_L_bendOf
set_option maxRecDepth 20000 in
theorem ggL_isTold_L_area : GoodIn wsL_isTold wsL_area := goodIn_ca (goodIn_r _ [39, 5, 6, 40, 41, 42, 10, 43, 12, 13, 14, 15, 16, 17, 18, 19, 20, 44, 45, 46, 47, 48, 229, 230, 231, 232, 233, 234, 235, 236, 237, 238] (by decide +kernel) (by decide +kernel)) (goodIn_sub (fun _ h => List.mem_cons_of_mem _ (List.mem_append_right _ h)) (by decide +kernel))
set_option maxRecDepth 20000 in
theorem gL_isTold_L_area : GoodIn wsL_isTold (va_wsS RL 120 yL_area wsL_area) := goodIn_app (goodIn_of _ (by decide +kernel)) ggL_isTold_L_area
set_option maxRecDepth 20000 in
theorem ggL_isTold_L_volume : GoodIn wsL_isTold wsL_volume := goodIn_ca (goodIn_r _ [51, 5, 6, 52, 53, 54, 10, 55, 12, 18, 19, 20, 16, 17, 56, 45, 57, 58, 59, 44, 46, 47, 48, 229, 230, 231, 232, 233, 234, 235, 236, 237, 238] (by decide +kernel) (by decide +kernel)) (goodIn_sub (fun _ h => List.mem_cons_of_mem _ (List.mem_append_right _ h)) (by decide +kernel))
set_option maxRecDepth 20000 in
theorem gL_isTold_L_volume : GoodIn wsL_isTold (va_wsS RL 122 yL_volume wsL_volume) := goodIn_app (goodIn_of _ (by decide +kernel)) ggL_isTold_L_volume
set_option maxRecDepth 20000 in
theorem ggL_isTold_L_volumeOf : GoodIn wsL_isTold wsL_volumeOf := goodIn_r _ [62] (by decide +kernel) (by decide +kernel)
set_option maxRecDepth 20000 in
theorem gL_isTold_L_volumeOf : GoodIn wsL_isTold (va_wsS RL 84 yL_volumeOf wsL_volumeOf) := goodIn_app (goodIn_of _ (by decide +kernel)) ggL_isTold_L_volumeOf
set_option maxRecDepth 20000 in
theorem ggL_isTold_L_volumeAnew : GoodIn wsL_isTold wsL_volumeAnew := goodIn_ca (goodIn_r _ [65, 5, 6, 66, 67, 68, 10, 69, 12, 18, 19, 20, 16, 17, 70, 45, 71, 72, 73, 74, 75, 76, 48, 229, 230, 231, 232, 233, 234, 235, 236, 237, 238] (by decide +kernel) (by decide +kernel)) (goodIn_sub (fun _ h => List.mem_cons_of_mem _ (List.mem_append_right _ h)) (by decide +kernel))
set_option maxRecDepth 20000 in
theorem gL_isTold_L_volumeAnew : GoodIn wsL_isTold (va_wsS RL 124 yL_volumeAnew wsL_volumeAnew) := goodIn_app (goodIn_of _ (by decide +kernel)) ggL_isTold_L_volumeAnew
set_option maxRecDepth 20000 in
theorem ggL_isTold_L_strake : GoodIn wsL_isTold wsL_strake := goodIn_ca (goodIn_r _ [79, 5, 6, 80, 81, 82, 10, 83, 12, 84, 85, 86, 16, 17, 87, 45, 88, 89, 48, 90, 91, 92, 93, 229, 230, 231, 232, 233, 234, 235, 236, 237, 238] (by decide +kernel) (by decide +kernel)) (goodIn_sub (fun _ h => List.mem_cons_of_mem _ (List.mem_append_right _ h)) (by decide +kernel))
set_option maxRecDepth 20000 in
theorem gL_isTold_L_strake : GoodIn wsL_isTold (va_wsS RL 126 yL_strake wsL_strake) := goodIn_app (goodIn_of _ (by decide +kernel)) ggL_isTold_L_strake
set_option maxRecDepth 20000 in
theorem ggL_isTold_L_strakeOf : GoodIn wsL_isTold wsL_strakeOf := goodIn_r _ [96, 97, 98, 3, 99] (by decide +kernel) (by decide +kernel)
set_option maxRecDepth 20000 in
theorem gL_isTold_L_strakeOf : GoodIn wsL_isTold (va_wsS RL 95 yL_strakeOf wsL_strakeOf) := goodIn_app (goodIn_of _ (by decide +kernel)) ggL_isTold_L_strakeOf
set_option maxRecDepth 20000 in
theorem ggL_isTold_X6_draught : GoodIn wsL_isTold wsX6_draught := goodIn_r _ [103, 104, 12, 105, 106, 107, 108, 109, 110, 111, 56, 45, 57, 58, 59, 44, 46, 47, 48, 112, 113, 114, 115, 116, 117, 118, 119, 120, 121, 122, 123, 124, 125, 126, 127, 128, 229, 230, 231, 232, 233, 234, 235, 236, 237, 239, 240, 238, 241, 242, 243, 244, 245] (by decide +kernel) (by decide +kernel)
set_option maxRecDepth 20000 in
theorem gL_isTold_X6_draught : GoodIn wsL_isTold (wsV RL 128 RX6 yX6_draught wsX6_draught) := goodIn_app (goodIn_of _ (by decide +kernel)) ggL_isTold_X6_draught
set_option maxRecDepth 20000 in
theorem ggL_isTold_L_draught : GoodIn wsL_isTold wsL_draught := goodIn_r _ [131, 60, 61, 3, 62] (by decide +kernel) (by decide +kernel)
set_option maxRecDepth 20000 in
theorem gL_isTold_L_draught : GoodIn wsL_isTold (va_wsS RL 88 yL_draught wsL_draught) := goodIn_app (goodIn_of _ (by decide +kernel)) ggL_isTold_L_draught
set_option maxRecDepth 20000 in
theorem ggL_isTold_X6_trim : GoodIn wsL_isTold wsX6_trim := goodIn_r _ [135, 104, 12, 105, 106, 107, 108, 109, 110, 111, 56, 45, 57, 58, 59, 44, 46, 47, 48, 112, 113, 114, 115, 116, 117, 118, 119, 120, 121, 122, 123, 124, 125, 136, 137, 138, 139, 140, 141, 142, 143, 144, 145, 146, 147, 148, 126, 127, 128, 149, 150, 151, 152, 153, 154, 155, 229, 230, 231, 232, 233, 234, 235, 236, 237, 239, 240, 238, 241, 242, 243, 244, 245] (by decide +kernel) (by decide +kernel)
set_option maxRecDepth 20000 in
theorem gL_isTold_X6_trim : GoodIn wsL_isTold (wsV RL 130 RX6 yX6_trim wsX6_trim) := goodIn_app (goodIn_of _ (by decide +kernel)) ggL_isTold_X6_trim
set_option maxRecDepth 20000 in
theorem ggL_isTold_L_trim : GoodIn wsL_isTold wsL_trim := goodIn_r _ [158, 129, 130, 3, 131, 60, 61, 62] (by decide +kernel) (by decide +kernel)
set_option maxRecDepth 20000 in
theorem gL_isTold_L_trim : GoodIn wsL_isTold (va_wsS RL 99 yL_trim wsL_trim) := goodIn_app (goodIn_of _ (by decide +kernel)) ggL_isTold_L_trim
set_option maxRecDepth 20000 in
theorem ggL_isTold_X6_needed : GoodIn wsL_isTold wsX6_needed := goodIn_r _ [162, 163, 164, 91, 92, 93, 165, 101, 102, 10, 103, 104, 12, 105, 106, 107, 108, 109, 110, 111, 56, 45, 57, 58, 59, 44, 46, 47, 48, 112, 113, 114, 115, 116, 117, 118, 119, 120, 121, 122, 123, 124, 125, 126, 127, 128, 166, 133, 134, 135, 136, 137, 138, 139, 140, 141, 142, 143, 144, 145, 146, 147, 148, 149, 150, 151, 152, 153, 154, 155, 229, 230, 231, 232, 233, 234, 235, 236, 237, 239, 240, 238, 241, 242, 243, 244, 245] (by decide +kernel) (by decide +kernel)
set_option maxRecDepth 20000 in
theorem gL_isTold_X6_needed : GoodIn wsL_isTold (wsV RL 132 RX6 yX6_needed wsX6_needed) := goodIn_app (goodIn_of _ (by decide +kernel)) ggL_isTold_X6_needed
set_option maxRecDepth 20000 in
theorem ggL_isTold_L_needed : GoodIn wsL_isTold wsL_needed := goodIn_r _ [169, 129, 130, 3, 131, 60, 61, 62, 156, 157, 158, 97, 98, 99] (by decide +kernel) (by decide +kernel)
set_option maxRecDepth 20000 in
theorem gL_isTold_L_needed : GoodIn wsL_isTold (va_wsS RL 103 yL_needed wsL_needed) := goodIn_app (goodIn_of _ (by decide +kernel)) ggL_isTold_L_needed
set_option maxRecDepth 20000 in
theorem ggL_isTold_X6_day : GoodIn wsL_isTold wsX6_day := goodIn_r _ [173, 174, 175, 176, 177, 160, 161, 10, 162, 163, 164, 91, 92, 93, 165, 101, 102, 103, 104, 12, 105, 106, 107, 108, 109, 110, 111, 56, 45, 57, 58, 59, 44, 46, 47, 48, 112, 113, 114, 115, 116, 117, 118, 119, 120, 121, 122, 123, 124, 125, 126, 127, 128, 166, 133, 134, 135, 136, 137, 138, 139, 140, 141, 142, 143, 144, 145, 146, 147, 148, 149, 150, 151, 152, 153, 154, 155, 178, 179, 180, 181, 182, 183, 184, 185, 186, 187, 188, 189, 190, 191, 229, 230, 231, 232, 233, 234, 235, 236, 237, 239, 240, 238, 241, 242, 243, 244, 245, 246, 247, 248] (by decide +kernel) (by decide +kernel)
set_option maxRecDepth 20000 in
theorem gL_isTold_X6_day : GoodIn wsL_isTold (wsV RL 134 RX6 yX6_day wsX6_day) := goodIn_app (goodIn_of _ (by decide +kernel)) ggL_isTold_X6_day
set_option maxRecDepth 20000 in
theorem ggL_isTold_L_dayOf : GoodIn wsL_isTold wsL_dayOf := goodIn_r _ [194, 167, 168, 3, 169, 129, 130, 131, 60, 61, 62, 156, 157, 158, 97, 98, 99, 195, 196, 197] (by decide +kernel) (by decide +kernel)
set_option maxRecDepth 20000 in
theorem gL_isTold_L_dayOf : GoodIn wsL_isTold (va_wsS RL 137 yL_dayOf wsL_dayOf) := goodIn_app (goodIn_of _ (by decide +kernel)) ggL_isTold_L_dayOf
set_option maxRecDepth 20000 in
theorem ggL_isTold_L_plankOf : GoodIn wsL_isTold wsL_plankOf := goodIn_ca (goodIn_r _ [200, 5, 6, 201, 202, 203, 10, 204, 205, 12, 84, 85, 86, 16, 17, 206, 207, 208, 209, 210, 211, 212, 213, 214, 215, 216, 217, 218, 87, 45, 88, 89, 48, 90, 91, 92, 93, 219, 220, 221, 222, 223, 224, 229, 230, 231, 232, 233, 234, 235, 236, 237, 249, 250, 251, 252, 253, 254, 255, 238] (by decide +kernel) (by decide +kernel)) (goodIn_sub (fun _ h => List.mem_cons_of_mem _ (List.mem_append_right _ h)) (by decide +kernel))
set_option maxRecDepth 20000 in
theorem gL_isTold_L_plankOf : GoodIn wsL_isTold (va_wsS RL 141 yL_plankOf wsL_plankOf) := goodIn_app (goodIn_of _ (by decide +kernel)) ggL_isTold_L_plankOf
set_option maxRecDepth 20000 in
theorem ggL_isTold_L_planksOf : GoodIn wsL_isTold wsL_planksOf := goodIn_r _ [227, 228, 94, 95, 3, 96, 97, 98, 99] (by decide +kernel) (by decide +kernel)
set_option maxRecDepth 20000 in
theorem gL_isTold_L_planksOf : GoodIn wsL_isTold (va_wsS RL 144 yL_planksOf wsL_planksOf) := goodIn_app (goodIn_of _ (by decide +kernel)) ggL_isTold_L_planksOf
theorem dL_isTold_0 : decode cL_isTold 0 = .ok (.iload_n 1, 1) := by decide +kernel
theorem dL_isTold_1 : decode cL_isTold 1 = .ok (.bipush 6, 2) := by decide +kernel
theorem dL_isTold_3 : decode cL_isTold 3 = .ok (.irem, 1) := by decide +kernel
theorem dL_isTold_4 : decode cL_isTold 4 = .ok (.istore 8, 2) := by decide +kernel
theorem dL_isTold_6 : decode cL_isTold 6 = .ok (.iload_n 1, 1) := by decide +kernel
theorem dL_isTold_7 : decode cL_isTold 7 = .ok (.bipush 9, 2) := by decide +kernel
theorem dL_isTold_9 : decode cL_isTold 9 = .ok (.irem, 1) := by decide +kernel
theorem dL_isTold_10 : decode cL_isTold 10 = .ok (.istore 9, 2) := by decide +kernel
theorem dL_isTold_12 : decode cL_isTold 12 = .ok (.iconst 0, 1) := by decide +kernel
theorem dL_isTold_13 : decode cL_isTold 13 = .ok (.istore 10, 2) := by decide +kernel
theorem dL_isTold_15 : decode cL_isTold 15 = .ok (.iconst 0, 1) := by decide +kernel
theorem dL_isTold_16 : decode cL_isTold 16 = .ok (.istore 11, 2) := by decide +kernel
theorem dL_isTold_18 : decode cL_isTold 18 = .ok (.iload 11, 2) := by decide +kernel
theorem dL_isTold_20 : decode cL_isTold 20 = .ok (.iload 8, 2) := by decide +kernel
theorem dL_isTold_22 : decode cL_isTold 22 = .ok (.if_icmp .ge 38, 3) := by decide +kernel
theorem dL_isTold_25 : decode cL_isTold 25 = .ok (.iload 10, 2) := by decide +kernel
theorem dL_isTold_27 : decode cL_isTold 27 = .ok (.aload_n 2, 1) := by decide +kernel
theorem dL_isTold_28 : decode cL_isTold 28 = .ok (.bipush 9, 2) := by decide +kernel
theorem dL_isTold_30 : decode cL_isTold 30 = .ok (.iload 11, 2) := by decide +kernel
theorem dL_isTold_32 : decode cL_isTold 32 = .ok (.imul, 1) := by decide +kernel
theorem dL_isTold_33 : decode cL_isTold 33 = .ok (.iload 9, 2) := by decide +kernel
theorem dL_isTold_35 : decode cL_isTold 35 = .ok (.iadd, 1) := by decide +kernel
theorem dL_isTold_36 : decode cL_isTold 36 = .ok (.iaload, 1) := by decide +kernel
theorem dL_isTold_37 : decode cL_isTold 37 = .ok (.aload_n 2, 1) := by decide +kernel
theorem dL_isTold_38 : decode cL_isTold 38 = .ok (.bipush 9, 2) := by decide +kernel
theorem dL_isTold_40 : decode cL_isTold 40 = .ok (.iload 11, 2) := by decide +kernel
theorem dL_isTold_42 : decode cL_isTold 42 = .ok (.imul, 1) := by decide +kernel
theorem dL_isTold_43 : decode cL_isTold 43 = .ok (.bipush 9, 2) := by decide +kernel
theorem dL_isTold_45 : decode cL_isTold 45 = .ok (.iadd, 1) := by decide +kernel
theorem dL_isTold_46 : decode cL_isTold 46 = .ok (.iload 9, 2) := by decide +kernel
theorem dL_isTold_48 : decode cL_isTold 48 = .ok (.iadd, 1) := by decide +kernel
theorem dL_isTold_49 : decode cL_isTold 49 = .ok (.iaload, 1) := by decide +kernel
theorem dL_isTold_50 : decode cL_isTold 50 = .ok (.iadd, 1) := by decide +kernel
theorem dL_isTold_51 : decode cL_isTold 51 = .ok (.iadd, 1) := by decide +kernel
theorem dL_isTold_52 : decode cL_isTold 52 = .ok (.istore 10, 2) := by decide +kernel
theorem dL_isTold_54 : decode cL_isTold 54 = .ok (.iinc 11 1, 3) := by decide +kernel
theorem dL_isTold_57 : decode cL_isTold 57 = .ok (.goto (-39), 3) := by decide +kernel
theorem dL_isTold_60 : decode cL_isTold 60 = .ok (.aload_n 0, 1) := by decide +kernel
theorem dL_isTold_61 : decode cL_isTold 61 = .ok (.iload 9, 2) := by decide +kernel
theorem dL_isTold_63 : decode cL_isTold 63 = .ok (.iload 8, 2) := by decide +kernel
theorem dL_isTold_65 : decode cL_isTold 65 = .ok (.invokestatic 111, 3) := by decide +kernel
theorem dL_isTold_68 : decode cL_isTold 68 = .ok (.aload_n 2, 1) := by decide +kernel
theorem dL_isTold_69 : decode cL_isTold 69 = .ok (.bipush 9, 2) := by decide +kernel
theorem dL_isTold_71 : decode cL_isTold 71 = .ok (.iload 8, 2) := by decide +kernel
theorem dL_isTold_73 : decode cL_isTold 73 = .ok (.imul, 1) := by decide +kernel
theorem dL_isTold_74 : decode cL_isTold 74 = .ok (.iload 9, 2) := by decide +kernel
theorem dL_isTold_76 : decode cL_isTold 76 = .ok (.iadd, 1) := by decide +kernel
theorem dL_isTold_77 : decode cL_isTold 77 = .ok (.iaload, 1) := by decide +kernel
theorem dL_isTold_78 : decode cL_isTold 78 = .ok (.if_icmp .ne 80, 3) := by decide +kernel
theorem dL_isTold_81 : decode cL_isTold 81 = .ok (.aload_n 0, 1) := by decide +kernel
theorem dL_isTold_82 : decode cL_isTold 82 = .ok (.iload 8, 2) := by decide +kernel
theorem dL_isTold_84 : decode cL_isTold 84 = .ok (.invokestatic 114, 3) := by decide +kernel
theorem dL_isTold_87 : decode cL_isTold 87 = .ok (.iload 8, 2) := by decide +kernel
theorem dL_isTold_89 : decode cL_isTold 89 = .ok (.aload_n 2, 1) := by decide +kernel
theorem dL_isTold_90 : decode cL_isTold 90 = .ok (.invokestatic 117, 3) := by decide +kernel
theorem dL_isTold_93 : decode cL_isTold 93 = .ok (.if_icmp .ne 65, 3) := by decide +kernel
theorem dL_isTold_96 : decode cL_isTold 96 = .ok (.aload_n 0, 1) := by decide +kernel
theorem dL_isTold_97 : decode cL_isTold 97 = .ok (.iload 9, 2) := by decide +kernel
theorem dL_isTold_99 : decode cL_isTold 99 = .ok (.iload 8, 2) := by decide +kernel
theorem dL_isTold_101 : decode cL_isTold 101 = .ok (.invokestatic 120, 3) := by decide +kernel
theorem dL_isTold_104 : decode cL_isTold 104 = .ok (.iload 10, 2) := by decide +kernel
theorem dL_isTold_106 : decode cL_isTold 106 = .ok (.if_icmp .ne 52, 3) := by decide +kernel
theorem dL_isTold_109 : decode cL_isTold 109 = .ok (.aload_n 0, 1) := by decide +kernel
theorem dL_isTold_110 : decode cL_isTold 110 = .ok (.iload 8, 2) := by decide +kernel
theorem dL_isTold_112 : decode cL_isTold 112 = .ok (.invokestatic 122, 3) := by decide +kernel
theorem dL_isTold_115 : decode cL_isTold 115 = .ok (.iload 8, 2) := by decide +kernel
theorem dL_isTold_117 : decode cL_isTold 117 = .ok (.aload_n 2, 1) := by decide +kernel
theorem dL_isTold_118 : decode cL_isTold 118 = .ok (.iconst 0, 1) := by decide +kernel
theorem dL_isTold_119 : decode cL_isTold 119 = .ok (.invokestatic 84, 3) := by decide +kernel
theorem dL_isTold_122 : decode cL_isTold 122 = .ok (.if_icmp .ne 36, 3) := by decide +kernel
theorem dL_isTold_125 : decode cL_isTold 125 = .ok (.aload_n 0, 1) := by decide +kernel
theorem dL_isTold_126 : decode cL_isTold 126 = .ok (.iload 8, 2) := by decide +kernel
theorem dL_isTold_128 : decode cL_isTold 128 = .ok (.invokestatic 124, 3) := by decide +kernel
theorem dL_isTold_131 : decode cL_isTold 131 = .ok (.iload 8, 2) := by decide +kernel
theorem dL_isTold_133 : decode cL_isTold 133 = .ok (.aload_n 2, 1) := by decide +kernel
theorem dL_isTold_134 : decode cL_isTold 134 = .ok (.iconst 0, 1) := by decide +kernel
theorem dL_isTold_135 : decode cL_isTold 135 = .ok (.invokestatic 84, 3) := by decide +kernel
theorem dL_isTold_138 : decode cL_isTold 138 = .ok (.if_icmp .ne 20, 3) := by decide +kernel
theorem dL_isTold_141 : decode cL_isTold 141 = .ok (.aload_n 0, 1) := by decide +kernel
theorem dL_isTold_142 : decode cL_isTold 142 = .ok (.iload_n 1, 1) := by decide +kernel
theorem dL_isTold_143 : decode cL_isTold 143 = .ok (.iconst 5, 1) := by decide +kernel
theorem dL_isTold_144 : decode cL_isTold 144 = .ok (.irem, 1) := by decide +kernel
theorem dL_isTold_145 : decode cL_isTold 145 = .ok (.invokestatic 126, 3) := by decide +kernel
theorem dL_isTold_148 : decode cL_isTold 148 = .ok (.iload_n 1, 1) := by decide +kernel
theorem dL_isTold_149 : decode cL_isTold 149 = .ok (.iconst 5, 1) := by decide +kernel
theorem dL_isTold_150 : decode cL_isTold 150 = .ok (.irem, 1) := by decide +kernel
theorem dL_isTold_151 : decode cL_isTold 151 = .ok (.aload_n 2, 1) := by decide +kernel
theorem dL_isTold_152 : decode cL_isTold 152 = .ok (.invokestatic 95, 3) := by decide +kernel
theorem dL_isTold_155 : decode cL_isTold 155 = .ok (.if_icmp .eq 5, 3) := by decide +kernel
theorem dL_isTold_158 : decode cL_isTold 158 = .ok (.iconst 0, 1) := by decide +kernel
theorem dL_isTold_159 : decode cL_isTold 159 = .ok (.ireturn, 1) := by decide +kernel
theorem dL_isTold_160 : decode cL_isTold 160 = .ok (.aload_n 0, 1) := by decide +kernel
theorem dL_isTold_161 : decode cL_isTold 161 = .ok (.invokevirtual 128, 3) := by decide +kernel
theorem dL_isTold_164 : decode cL_isTold 164 = .ok (.aload_n 2, 1) := by decide +kernel
theorem dL_isTold_165 : decode cL_isTold 165 = .ok (.aload 4, 2) := by decide +kernel
theorem dL_isTold_167 : decode cL_isTold 167 = .ok (.invokestatic 88, 3) := by decide +kernel
theorem dL_isTold_170 : decode cL_isTold 170 = .ok (.if_icmp .ne 17, 3) := by decide +kernel
theorem dL_isTold_173 : decode cL_isTold 173 = .ok (.aload_n 0, 1) := by decide +kernel
theorem dL_isTold_174 : decode cL_isTold 174 = .ok (.invokevirtual 130, 3) := by decide +kernel
theorem dL_isTold_177 : decode cL_isTold 177 = .ok (.aload_n 2, 1) := by decide +kernel
theorem dL_isTold_178 : decode cL_isTold 178 = .ok (.aload_n 3, 1) := by decide +kernel
theorem dL_isTold_179 : decode cL_isTold 179 = .ok (.aload 4, 2) := by decide +kernel
theorem dL_isTold_181 : decode cL_isTold 181 = .ok (.invokestatic 99, 3) := by decide +kernel
theorem dL_isTold_184 : decode cL_isTold 184 = .ok (.if_icmp .eq 5, 3) := by decide +kernel
theorem dL_isTold_187 : decode cL_isTold 187 = .ok (.iconst 0, 1) := by decide +kernel
theorem dL_isTold_188 : decode cL_isTold 188 = .ok (.ireturn, 1) := by decide +kernel
theorem dL_isTold_189 : decode cL_isTold 189 = .ok (.iload_n 1, 1) := by decide +kernel
theorem dL_isTold_190 : decode cL_isTold 190 = .ok (.iconst 3, 1) := by decide +kernel
theorem dL_isTold_191 : decode cL_isTold 191 = .ok (.irem, 1) := by decide +kernel
theorem dL_isTold_192 : decode cL_isTold 192 = .ok (.ifCond .ne 41, 3) := by decide +kernel
theorem dL_isTold_195 : decode cL_isTold 195 = .ok (.aload_n 0, 1) := by decide +kernel
theorem dL_isTold_196 : decode cL_isTold 196 = .ok (.invokevirtual 132, 3) := by decide +kernel
theorem dL_isTold_199 : decode cL_isTold 199 = .ok (.aload_n 2, 1) := by decide +kernel
theorem dL_isTold_200 : decode cL_isTold 200 = .ok (.aload_n 3, 1) := by decide +kernel
theorem dL_isTold_201 : decode cL_isTold 201 = .ok (.aload 4, 2) := by decide +kernel
theorem dL_isTold_203 : decode cL_isTold 203 = .ok (.aload 7, 2) := by decide +kernel
theorem dL_isTold_205 : decode cL_isTold 205 = .ok (.invokestatic 103, 3) := by decide +kernel
theorem dL_isTold_208 : decode cL_isTold 208 = .ok (.if_icmp .ne 23, 3) := by decide +kernel
theorem dL_isTold_211 : decode cL_isTold 211 = .ok (.aload_n 0, 1) := by decide +kernel
theorem dL_isTold_212 : decode cL_isTold 212 = .ok (.invokevirtual 134, 3) := by decide +kernel
theorem dL_isTold_215 : decode cL_isTold 215 = .ok (.aload_n 2, 1) := by decide +kernel
theorem dL_isTold_216 : decode cL_isTold 216 = .ok (.aload_n 3, 1) := by decide +kernel
theorem dL_isTold_217 : decode cL_isTold 217 = .ok (.aload 4, 2) := by decide +kernel
theorem dL_isTold_219 : decode cL_isTold 219 = .ok (.aload 5, 2) := by decide +kernel
theorem dL_isTold_221 : decode cL_isTold 221 = .ok (.aload 6, 2) := by decide +kernel
theorem dL_isTold_223 : decode cL_isTold 223 = .ok (.aload 7, 2) := by decide +kernel
theorem dL_isTold_225 : decode cL_isTold 225 = .ok (.invokestatic 137, 3) := by decide +kernel
theorem dL_isTold_228 : decode cL_isTold 228 = .ok (.if_icmp .eq 5, 3) := by decide +kernel
theorem dL_isTold_231 : decode cL_isTold 231 = .ok (.iconst 0, 1) := by decide +kernel
theorem dL_isTold_232 : decode cL_isTold 232 = .ok (.ireturn, 1) := by decide +kernel
theorem dL_isTold_233 : decode cL_isTold 233 = .ok (.iload_n 1, 1) := by decide +kernel
theorem dL_isTold_234 : decode cL_isTold 234 = .ok (.iconst 4, 1) := by decide +kernel
theorem dL_isTold_235 : decode cL_isTold 235 = .ok (.irem, 1) := by decide +kernel
theorem dL_isTold_236 : decode cL_isTold 236 = .ok (.ifCond .gt 52, 3) := by decide +kernel
theorem dL_isTold_239 : decode cL_isTold 239 = .ok (.aload_n 0, 1) := by decide +kernel
theorem dL_isTold_240 : decode cL_isTold 240 = .ok (.iload_n 1, 1) := by decide +kernel
theorem dL_isTold_241 : decode cL_isTold 241 = .ok (.iconst 4, 1) := by decide +kernel
theorem dL_isTold_242 : decode cL_isTold 242 = .ok (.idiv, 1) := by decide +kernel
theorem dL_isTold_243 : decode cL_isTold 243 = .ok (.iconst 5, 1) := by decide +kernel
theorem dL_isTold_244 : decode cL_isTold 244 = .ok (.irem, 1) := by decide +kernel
theorem dL_isTold_245 : decode cL_isTold 245 = .ok (.iload_n 1, 1) := by decide +kernel
theorem dL_isTold_246 : decode cL_isTold 246 = .ok (.bipush 20, 2) := by decide +kernel
theorem dL_isTold_248 : decode cL_isTold 248 = .ok (.idiv, 1) := by decide +kernel
theorem dL_isTold_249 : decode cL_isTold 249 = .ok (.iconst 2, 1) := by decide +kernel
theorem dL_isTold_250 : decode cL_isTold 250 = .ok (.irem, 1) := by decide +kernel
theorem dL_isTold_251 : decode cL_isTold 251 = .ok (.iconst 1, 1) := by decide +kernel
theorem dL_isTold_252 : decode cL_isTold 252 = .ok (.if_icmp .ne 7, 3) := by decide +kernel
theorem dL_isTold_255 : decode cL_isTold 255 = .ok (.iconst 1, 1) := by decide +kernel
theorem dL_isTold_256 : decode cL_isTold 256 = .ok (.goto 4, 3) := by decide +kernel
theorem dL_isTold_259 : decode cL_isTold 259 = .ok (.iconst 0, 1) := by decide +kernel
theorem dL_isTold_260 : decode cL_isTold 260 = .ok (.invokestatic 141, 3) := by decide +kernel
theorem dL_isTold_263 : decode cL_isTold 263 = .ok (.iconst 2, 1) := by decide +kernel
theorem dL_isTold_264 : decode cL_isTold 264 = .ok (.iload_n 1, 1) := by decide +kernel
theorem dL_isTold_265 : decode cL_isTold 265 = .ok (.iconst 4, 1) := by decide +kernel
theorem dL_isTold_266 : decode cL_isTold 266 = .ok (.idiv, 1) := by decide +kernel
theorem dL_isTold_267 : decode cL_isTold 267 = .ok (.iconst 5, 1) := by decide +kernel
theorem dL_isTold_268 : decode cL_isTold 268 = .ok (.irem, 1) := by decide +kernel
theorem dL_isTold_269 : decode cL_isTold 269 = .ok (.imul, 1) := by decide +kernel
theorem dL_isTold_270 : decode cL_isTold 270 = .ok (.iload_n 1, 1) := by decide +kernel
theorem dL_isTold_271 : decode cL_isTold 271 = .ok (.bipush 20, 2) := by decide +kernel
theorem dL_isTold_273 : decode cL_isTold 273 = .ok (.idiv, 1) := by decide +kernel
theorem dL_isTold_274 : decode cL_isTold 274 = .ok (.iconst 2, 1) := by decide +kernel
theorem dL_isTold_275 : decode cL_isTold 275 = .ok (.irem, 1) := by decide +kernel
theorem dL_isTold_276 : decode cL_isTold 276 = .ok (.iadd, 1) := by decide +kernel
theorem dL_isTold_277 : decode cL_isTold 277 = .ok (.aload_n 2, 1) := by decide +kernel
theorem dL_isTold_278 : decode cL_isTold 278 = .ok (.aload 7, 2) := by decide +kernel
theorem dL_isTold_280 : decode cL_isTold 280 = .ok (.iconst 1, 1) := by decide +kernel
theorem dL_isTold_281 : decode cL_isTold 281 = .ok (.iaload, 1) := by decide +kernel
theorem dL_isTold_282 : decode cL_isTold 282 = .ok (.invokestatic 144, 3) := by decide +kernel
theorem dL_isTold_285 : decode cL_isTold 285 = .ok (.if_icmp .ne 7, 3) := by decide +kernel
theorem dL_isTold_288 : decode cL_isTold 288 = .ok (.iconst 1, 1) := by decide +kernel
theorem dL_isTold_289 : decode cL_isTold 289 = .ok (.goto 4, 3) := by decide +kernel
theorem dL_isTold_292 : decode cL_isTold 292 = .ok (.iconst 0, 1) := by decide +kernel
theorem dL_isTold_293 : decode cL_isTold 293 = .ok (.ireturn, 1) := by decide +kernel
set_option maxRecDepth 20000 in
theorem ggL_law_X6_init : GoodIn wsL_law wsX6_init := goodIn_r _ [10, 11, 12, 13, 14, 15, 16, 17, 18, 19, 20, 21, 22, 23, 24, 25, 26, 27, 28, 29, 30, 31, 32, 33, 34, 35, 36, 37, 38, 39, 40, 41, 42, 43, 44, 3, 45, 46, 47, 48, 49, 50, 51, 52, 53, 54, 55, 56, 57, 58, 59, 60, 61, 62, 63, 64, 65, 66, 67, 68, 69, 70, 71, 72, 73, 74, 75, 76, 77, 78, 79, 80, 81, 437, 428, 429, 430, 431, 432, 433, 434, 435, 436, 438, 439, 440, 441, 442, 443, 444, 445, 446, 447, 448, 449, 450, 451, 452, 453, 454, 455, 456, 457] (by decide +kernel) (by decide +kernel)
set_option maxRecDepth 20000 in
theorem gL_law_X6_init : GoodIn wsL_law (wsX6_init) := ggL_law_X6_init
set_option maxRecDepth 20000 in
theorem ggL_law_L_cell : GoodIn wsL_law wsL_cell := goodIn_r _ [85, 86] (by decide +kernel) (by decide +kernel)
set_option maxRecDepth 20000 in
theorem gL_law_L_cell : GoodIn wsL_law (va_wsS RL 149 yL_cell wsL_cell) := goodIn_app (goodIn_of _ (by decide +kernel)) ggL_law_L_cell
set_option maxRecDepth 20000 in
theorem ggL_law_L_low : GoodIn wsL_law wsL_low := goodIn_r _ [89] (by decide +kernel) (by decide +kernel)
set_option maxRecDepth 20000 in
theorem gL_law_L_low : GoodIn wsL_law (va_wsS RL 153 yL_low wsL_low) := goodIn_app (goodIn_of _ (by decide +kernel)) ggL_law_L_low
set_option maxRecDepth 20000 in
theorem ggL_law_L_offset : GoodIn wsL_law wsL_offset := goodIn_ca (goodIn_ca (goodIn_ca (goodIn_r _ [92, 93, 94, 95, 7, 6, 4, 96, 97, 98, 2, 99, 17, 100, 101, 102, 103, 104, 105, 106, 107, 108, 109, 110, 111, 112, 113, 114, 115, 116, 117, 118, 40, 428, 429, 430, 431, 432, 433, 434, 435, 436, 437] (by decide +kernel) (by decide +kernel)) (goodIn_sub (fun _ h => List.mem_append_left _ (List.mem_append_left _ (List.mem_append_right _ h))) (by decide +kernel))) (goodIn_sub (fun _ h => List.mem_append_left _ (List.mem_append_right _ h)) (by decide +kernel))) (goodIn_sub (fun _ h => List.mem_append_right _ h) (by decide +kernel))
set_option maxRecDepth 20000 in
theorem gL_law_L_offset : GoodIn wsL_law (va_wsS RL 156 yL_offset wsL_offset) := goodIn_app (goodIn_of _ (by decide +kernel)) ggL_law_L_offset
set_option maxRecDepth 20000 in
theorem ggL_law_L_bendOf : GoodIn wsL_law wsL_bendOf := goodIn_r _ [121] (by decide +kernel) (by decide +kernel)
set_option maxRecDepth 20000 in
theorem gL_law_L_bendOf : GoodIn wsL_law (va_wsS RL 117 yL_bendOf wsL_bendOf) := goodIn_app (goodIn_of _ (by decide +kernel)) ggL_law_L_bendOf
set_option maxRecDepth 20000 in
theorem ggL_law_L_fairs : GoodIn wsL_law wsL_fairs := goodIn_r _ [124, 125, 3, 126, 127, 128, 129, 84, 130] (by decide +kernel) (by decide +kernel)
set_option maxRecDepth 20000 in
theorem gL_law_L_fairs : GoodIn wsL_law (va_wsS RL 159 yL_fairs wsL_fairs) := goodIn_app (goodIn_of _ (by decide +kernel)) ggL_law_L_fairs
set_option maxRecDepth 20000 in
theorem ggL_law_L_fair : GoodIn wsL_law wsL_fair := goodIn_ca (goodIn_ca (goodIn_ca (goodIn_r _ [133, 93, 94, 95, 7, 6, 4, 134, 135, 136, 2, 137, 17, 21, 105, 106, 107, 103, 104, 108, 109, 110, 111, 112, 113, 114, 115, 116, 117, 118, 40, 138, 139, 140, 141, 142, 143, 144, 20, 145, 146, 51, 147, 148, 149, 150, 52, 151, 152, 153, 154, 155, 156, 157, 158, 50, 159, 160, 161, 162, 163, 164, 165, 166, 167, 168, 169, 170, 428, 429, 430, 431, 432, 433, 434, 435, 436, 437, 438, 439, 440] (by decide +kernel) (by decide +kernel)) (goodIn_sub (fun _ h => List.mem_append_left _ (List.mem_append_left _ (List.mem_append_right _ h))) (by decide +kernel))) (goodIn_sub (fun _ h => List.mem_append_left _ (List.mem_append_right _ h)) (by decide +kernel))) (goodIn_sub (fun _ h => List.mem_append_right _ h) (by decide +kernel))
set_option maxRecDepth 20000 in
theorem gL_law_L_fair : GoodIn wsL_law (va_wsS RL 163 yL_fair wsL_fair) := goodIn_app (goodIn_of _ (by decide +kernel)) ggL_law_L_fair
set_option maxRecDepth 20000 in
theorem ggL_law_L_half : GoodIn wsL_law wsL_half := goodIn_ca (goodIn_r _ [173, 93, 7, 174, 175, 176, 2, 177, 17, 100, 101, 102, 103, 104, 105, 106, 107, 428, 429, 430, 431, 432, 433, 434, 435, 436, 437] (by decide +kernel) (by decide +kernel)) (goodIn_sub (fun _ h => List.mem_append_left _ (List.mem_append_left _ (List.mem_append_right _ h))) (by decide +kernel))
set_option maxRecDepth 20000 in
theorem gL_law_L_half : GoodIn wsL_law (va_wsS RL 111 yL_half wsL_half) := goodIn_app (goodIn_of _ (by decide +kernel)) ggL_law_L_half
set_option maxRecDepth 20000 in
theorem ggL_law_L_weigh : GoodIn wsL_law wsL_weigh := goodIn_ca (goodIn_ca (goodIn_ca (goodIn_r _ [180, 93, 94, 95, 7, 6, 4, 181, 182, 183, 2, 184, 117, 118, 25, 100, 101, 102, 103, 104, 108, 109, 110, 111, 112, 185, 24, 186, 187, 58, 188, 189, 190, 56, 57, 428, 429, 430, 431, 432, 433, 434, 435, 436, 441, 442, 443, 444, 445] (by decide +kernel) (by decide +kernel)) (goodIn_sub (fun _ h => List.mem_append_right _ h) (by decide +kernel))) (goodIn_sub (fun _ h => List.mem_append_left _ (List.mem_append_left _ (List.mem_append_right _ h))) (by decide +kernel))) (goodIn_sub (fun _ h => List.mem_append_left _ (List.mem_append_right _ h)) (by decide +kernel))
set_option maxRecDepth 20000 in
theorem gL_law_L_weigh : GoodIn wsL_law (va_wsS RL 165 yL_weigh wsL_weigh) := goodIn_app (goodIn_of _ (by decide +kernel)) ggL_law_L_weigh
set_option maxRecDepth 20000 in
theorem ggL_law_L_change : GoodIn wsL_law wsL_change := goodIn_ca (goodIn_ca (goodIn_r _ [193, 93, 94, 7, 6, 194, 195, 196, 2, 197, 25, 198, 199, 200, 201, 103, 104, 100, 101, 102, 108, 109, 110, 111, 112, 202, 24, 203, 204, 56, 57, 428, 429, 430, 431, 432, 433, 434, 435, 436, 441, 442, 443, 444, 445] (by decide +kernel) (by decide +kernel)) (goodIn_sub (fun _ h => List.mem_append_left _ (List.mem_append_left _ (List.mem_append_right _ h))) (by decide +kernel))) (goodIn_sub (fun _ h => List.mem_append_left _ (List.mem_append_right _ h)) (by decide +kernel))
set_option maxRecDepth 20000 in
theorem gL_law_L_change : GoodIn wsL_law (va_wsS RL 167 yL_change wsL_change) := goodIn_app (goodIn_of _ (by decide +kernel)) ggL_law_L_change
set_option maxRecDepth 20000 in
theorem ggL_law_L_draught : GoodIn wsL_law wsL_draught := goodIn_r _ [207, 208, 209, 84, 210] (by decide +kernel) (by decide +kernel)
set_option maxRecDepth 20000 in
theorem gL_law_L_draught : GoodIn wsL_law (va_wsS RL 88 yL_draught wsL_draught) := goodIn_app (goodIn_of _ (by decide +kernel)) ggL_law_L_draught
set_option maxRecDepth 20000 in
theorem ggL_law_L_trim : GoodIn wsL_law wsL_trim := goodIn_r _ [213, 205, 206, 84, 207, 208, 209, 210] (by decide +kernel) (by decide +kernel)
set_option maxRecDepth 20000 in
theorem gL_law_L_trim : GoodIn wsL_law (va_wsS RL 99 yL_trim wsL_trim) := goodIn_app (goodIn_of _ (by decide +kernel)) ggL_law_L_trim
set_option maxRecDepth 20000 in
theorem ggL_law_L_size : GoodIn wsL_law wsL_size := goodIn_r _ [216] (by decide +kernel) (by decide +kernel)
set_option maxRecDepth 20000 in
theorem gL_law_L_size : GoodIn wsL_law (va_wsS RL 92 yL_size wsL_size) := goodIn_app (goodIn_of _ (by decide +kernel)) ggL_law_L_size
set_option maxRecDepth 20000 in
theorem ggL_law_L_ballast : GoodIn wsL_law wsL_ballast := goodIn_ca (goodIn_r _ [219, 94, 6, 220, 221, 222, 2, 223, 29, 17, 25, 108, 109, 110, 111, 112, 224, 28, 225, 226, 64, 65, 227, 16, 228, 229, 230, 231, 232, 233, 45, 234, 235, 236, 237, 238, 239, 240, 241, 149, 242, 243, 24, 244, 245, 58, 56, 246, 247, 248, 57, 249, 250, 251, 252, 253, 254, 255, 256, 257, 258, 259, 260, 261, 262, 263, 428, 429, 430, 431, 432, 433, 434, 435, 436, 441, 442, 443, 444, 445, 446, 447, 437] (by decide +kernel) (by decide +kernel)) (goodIn_sub (fun _ h => List.mem_append_left _ (List.mem_append_right _ h)) (by decide +kernel))
set_option maxRecDepth 20000 in
theorem gL_law_L_ballast : GoodIn wsL_law (va_wsS RL 170 yL_ballast wsL_ballast) := goodIn_app (goodIn_of _ (by decide +kernel)) ggL_law_L_ballast
set_option maxRecDepth 20000 in
theorem ggL_law_L_planks : GoodIn wsL_law wsL_planks := goodIn_ca (goodIn_r _ [266, 94, 6, 267, 268, 269, 2, 270, 33, 17, 108, 109, 110, 111, 112, 271, 32, 272, 273, 75, 71, 72, 70, 73, 274, 275, 276, 277, 278, 16, 279, 280, 45, 281, 241, 149, 242, 282, 283, 284, 285, 74, 69, 428, 429, 430, 431, 432, 433, 434, 435, 436, 448, 449, 450, 451, 452, 453, 454, 437] (by decide +kernel) (by decide +kernel)) (goodIn_sub (fun _ h => List.mem_append_left _ (List.mem_append_right _ h)) (by decide +kernel))
set_option maxRecDepth 20000 in
theorem gL_law_L_planks : GoodIn wsL_law (va_wsS RL 172 yL_planks wsL_planks) := goodIn_app (goodIn_of _ (by decide +kernel)) ggL_law_L_planks
set_option maxRecDepth 20000 in
theorem ggL_law_L_planksOf : GoodIn wsL_law wsL_planksOf := goodIn_r _ [288, 3, 289, 290, 84, 291, 214, 215, 216] (by decide +kernel) (by decide +kernel)
set_option maxRecDepth 20000 in
theorem gL_law_L_planksOf : GoodIn wsL_law (va_wsS RL 144 yL_planksOf wsL_planksOf) := goodIn_app (goodIn_of _ (by decide +kernel)) ggL_law_L_planksOf
set_option maxRecDepth 20000 in
theorem ggL_law_L_tide : GoodIn wsL_law wsL_tide := goodIn_ca (goodIn_ca (goodIn_r _ [294, 94, 95, 6, 4, 295, 296, 297, 2, 298, 117, 118, 37, 108, 109, 110, 111, 112, 299, 36, 300, 301, 81, 302, 303, 304, 305, 79, 306, 307, 308, 80, 309, 310, 262, 311, 312, 313, 314, 428, 429, 430, 431, 432, 433, 434, 435, 436, 455, 456, 457] (by decide +kernel) (by decide +kernel)) (goodIn_sub (fun _ h => List.mem_append_right _ h) (by decide +kernel))) (goodIn_sub (fun _ h => List.mem_append_left _ (List.mem_append_right _ h)) (by decide +kernel))
set_option maxRecDepth 20000 in
theorem gL_law_L_tide : GoodIn wsL_law (va_wsS RL 174 yL_tide wsL_tide) := goodIn_app (goodIn_of _ (by decide +kernel)) ggL_law_L_tide
set_option maxRecDepth 20000 in
theorem ggL_law_L_tideOn : GoodIn wsL_law wsL_tideOn := goodIn_r _ [317] (by decide +kernel) (by decide +kernel)
set_option maxRecDepth 20000 in
theorem gL_law_L_tideOn : GoodIn wsL_law (va_wsS RL 107 yL_tideOn wsL_tideOn) := goodIn_app (goodIn_of _ (by decide +kernel)) ggL_law_L_tideOn
set_option maxRecDepth 20000 in
theorem ggL_law_L_sill : GoodIn wsL_law wsL_sill := goodIn_ca (goodIn_r _ [320, 94, 6, 321, 322, 323, 2, 324, 38, 108, 109, 110, 111, 112, 428, 429, 430, 431, 432, 433, 434, 435, 436] (by decide +kernel) (by decide +kernel)) (goodIn_sub (fun _ h => List.mem_append_left _ (List.mem_append_right _ h)) (by decide +kernel))
set_option maxRecDepth 20000 in
theorem gL_law_L_sill : GoodIn wsL_law (va_wsS RL 176 yL_sill wsL_sill) := goodIn_app (goodIn_of _ (by decide +kernel)) ggL_law_L_sill
set_option maxRecDepth 20000 in
theorem ggL_law_L_needed : GoodIn wsL_law wsL_needed := goodIn_r _ [327, 205, 206, 84, 207, 208, 209, 210, 211, 212, 213, 214, 215, 216] (by decide +kernel) (by decide +kernel)
set_option maxRecDepth 20000 in
theorem gL_law_L_needed : GoodIn wsL_law (va_wsS RL 103 yL_needed wsL_needed) := goodIn_app (goodIn_of _ (by decide +kernel)) ggL_law_L_needed
set_option maxRecDepth 20000 in
theorem ggL_law_L_launch : GoodIn wsL_law wsL_launch := goodIn_ca (goodIn_r _ [330, 95, 4, 331, 332, 333, 2, 334, 117, 118, 37, 39, 40, 113, 114, 115, 116, 335, 336, 337, 338, 38, 339, 241, 149, 242, 340, 341, 342, 343, 29, 17, 25, 224, 28, 225, 226, 64, 65, 227, 16, 228, 229, 230, 231, 232, 233, 45, 234, 235, 236, 344, 24, 345, 346, 59, 347, 243, 244, 245, 58, 56, 250, 251, 252, 348, 349, 350, 351, 352, 353, 354, 60, 355, 246, 247, 248, 57, 254, 255, 256, 249, 257, 258, 259, 260, 261, 262, 263, 306, 36, 307, 308, 80, 302, 303, 304, 305, 81, 79, 309, 310, 311, 428, 429, 430, 431, 432, 433, 434, 435, 436, 446, 447, 437, 441, 442, 443, 444, 445, 455, 456, 457] (by decide +kernel) (by decide +kernel)) (goodIn_sub (fun _ h => List.mem_append_right _ h) (by decide +kernel))
set_option maxRecDepth 20000 in
theorem gL_law_L_launch : GoodIn wsL_law (va_wsS RL 178 yL_launch wsL_launch) := goodIn_app (goodIn_of _ (by decide +kernel)) ggL_law_L_launch
set_option maxRecDepth 20000 in
theorem ggL_law_L_pass : GoodIn wsL_law wsL_pass := goodIn_ca (goodIn_ca (goodIn_r _ [358, 94, 95, 6, 4, 359, 360, 361, 2, 362, 117, 118, 39, 108, 109, 110, 111, 112, 428, 429, 430, 431, 432, 433, 434, 435, 436] (by decide +kernel) (by decide +kernel)) (goodIn_sub (fun _ h => List.mem_append_right _ h) (by decide +kernel))) (goodIn_sub (fun _ h => List.mem_append_left _ (List.mem_append_right _ h)) (by decide +kernel))
set_option maxRecDepth 20000 in
theorem gL_law_L_pass : GoodIn wsL_law (va_wsS RL 181 yL_pass wsL_pass) := goodIn_app (goodIn_of _ (by decide +kernel)) ggL_law_L_pass
set_option maxRecDepth 20000 in
theorem ggL_law_L_isTold : GoodIn wsL_law wsL_isTold := goodIn_ca (goodIn_r _ [365, 171, 172, 84, 173, 93, 7, 174, 175, 176, 2, 177, 17, 100, 101, 102, 103, 104, 105, 106, 107, 366, 367, 368, 369, 370, 371, 372, 138, 139, 140, 141, 142, 143, 119, 120, 121, 373, 374, 375, 376, 377, 378, 379, 231, 16, 232, 233, 45, 380, 381, 382, 383, 384, 385, 386, 227, 228, 229, 230, 208, 209, 210, 387, 388, 389, 390, 391, 392, 393, 394, 395, 396, 397, 398, 399, 400, 401, 402, 403, 404, 405, 406, 407, 408, 409, 410, 278, 279, 280, 281, 241, 149, 242, 289, 290, 291, 214, 215, 216, 411, 341, 342, 343, 29, 25, 224, 28, 225, 226, 64, 65, 234, 235, 236, 344, 24, 345, 346, 59, 347, 243, 244, 245, 58, 56, 250, 251, 252, 205, 206, 207, 412, 349, 350, 351, 352, 353, 354, 60, 355, 246, 247, 248, 57, 254, 255, 256, 249, 257, 258, 259, 260, 261, 262, 263, 211, 212, 213, 413, 336, 337, 338, 38, 339, 340, 348, 325, 326, 327, 414, 415, 416, 417, 40, 37, 39, 335, 306, 36, 307, 308, 80, 302, 303, 304, 305, 81, 79, 309, 310, 311, 418, 419, 420, 315, 316, 317, 421, 422, 423, 424, 425, 426, 427, 33, 271, 32, 272, 273, 75, 71, 72, 70, 73, 274, 275, 276, 277, 282, 283, 284, 285, 74, 69, 286, 287, 288, 3, 428, 429, 430, 431, 432, 433, 434, 435, 436, 437, 446, 447, 441, 442, 443, 444, 445, 455, 456, 457, 448, 449, 450, 451, 452, 453, 454] (by decide +kernel) (by decide +kernel)) (goodIn_sub (fun _ h => List.mem_append_left _ (List.mem_append_left _ (List.mem_append_right _ h))) (by decide +kernel))
set_option maxRecDepth 20000 in
theorem gL_law_L_isTold : GoodIn wsL_law (va_wsS RL 183 yL_isTold wsL_isTold) := goodIn_app (goodIn_of _ (by decide +kernel)) ggL_law_L_isTold
theorem dL_law_0 : decode cL_law 0 = .ok (.new 9, 3) := by decide +kernel
theorem dL_law_3 : decode cL_law 3 = .ok (.dup, 1) := by decide +kernel
theorem dL_law_4 : decode cL_law 4 = .ok (.invokespecial 148, 3) := by decide +kernel
theorem dL_law_7 : decode cL_law 7 = .ok (.astore_n 1, 1) := by decide +kernel
theorem dL_law_8 : decode cL_law 8 = .ok (.bipush 54, 2) := by decide +kernel
theorem dL_law_10 : decode cL_law 10 = .ok (.newarray .int, 2) := by decide +kernel
theorem dL_law_12 : decode cL_law 12 = .ok (.astore_n 2, 1) := by decide +kernel
theorem dL_law_13 : decode cL_law 13 = .ok (.bipush 17, 2) := by decide +kernel
theorem dL_law_15 : decode cL_law 15 = .ok (.newarray .int, 2) := by decide +kernel
theorem dL_law_17 : decode cL_law 17 = .ok (.astore_n 3, 1) := by decide +kernel
theorem dL_law_18 : decode cL_law 18 = .ok (.bipush 17, 2) := by decide +kernel
theorem dL_law_20 : decode cL_law 20 = .ok (.newarray .int, 2) := by decide +kernel
theorem dL_law_22 : decode cL_law 22 = .ok (.astore 4, 2) := by decide +kernel
theorem dL_law_24 : decode cL_law 24 = .ok (.bipush 40, 2) := by decide +kernel
theorem dL_law_26 : decode cL_law 26 = .ok (.newarray .int, 2) := by decide +kernel
theorem dL_law_28 : decode cL_law 28 = .ok (.astore 5, 2) := by decide +kernel
theorem dL_law_30 : decode cL_law 30 = .ok (.bipush 40, 2) := by decide +kernel
theorem dL_law_32 : decode cL_law 32 = .ok (.newarray .int, 2) := by decide +kernel
theorem dL_law_34 : decode cL_law 34 = .ok (.astore 6, 2) := by decide +kernel
theorem dL_law_36 : decode cL_law 36 = .ok (.bipush 6, 2) := by decide +kernel
theorem dL_law_38 : decode cL_law 38 = .ok (.newarray .int, 2) := by decide +kernel
theorem dL_law_40 : decode cL_law 40 = .ok (.astore 7, 2) := by decide +kernel
theorem dL_law_42 : decode cL_law 42 = .ok (.aload_n 3, 1) := by decide +kernel
theorem dL_law_43 : decode cL_law 43 = .ok (.bipush 16, 2) := by decide +kernel
theorem dL_law_45 : decode cL_law 45 = .ok (.iconst 4, 1) := by decide +kernel
theorem dL_law_46 : decode cL_law 46 = .ok (.iastore, 1) := by decide +kernel
theorem dL_law_47 : decode cL_law 47 = .ok (.aload 7, 2) := by decide +kernel
theorem dL_law_49 : decode cL_law 49 = .ok (.iconst 1, 1) := by decide +kernel
theorem dL_law_50 : decode cL_law 50 = .ok (.sipush 1000, 3) := by decide +kernel
theorem dL_law_53 : decode cL_law 53 = .ok (.iastore, 1) := by decide +kernel
theorem dL_law_54 : decode cL_law 54 = .ok (.iconst 0, 1) := by decide +kernel
theorem dL_law_55 : decode cL_law 55 = .ok (.istore 8, 2) := by decide +kernel
theorem dL_law_57 : decode cL_law 57 = .ok (.iload 8, 2) := by decide +kernel
theorem dL_law_59 : decode cL_law 59 = .ok (.bipush 6, 2) := by decide +kernel
theorem dL_law_61 : decode cL_law 61 = .ok (.if_icmp .ge 107, 3) := by decide +kernel
theorem dL_law_64 : decode cL_law 64 = .ok (.iconst 0, 1) := by decide +kernel
theorem dL_law_65 : decode cL_law 65 = .ok (.istore 9, 2) := by decide +kernel
theorem dL_law_67 : decode cL_law 67 = .ok (.iload 9, 2) := by decide +kernel
theorem dL_law_69 : decode cL_law 69 = .ok (.bipush 9, 2) := by decide +kernel
theorem dL_law_71 : decode cL_law 71 = .ok (.if_icmp .ge 91, 3) := by decide +kernel
theorem dL_law_74 : decode cL_law 74 = .ok (.aload_n 0, 1) := by decide +kernel
theorem dL_law_75 : decode cL_law 75 = .ok (.bipush 9, 2) := by decide +kernel
theorem dL_law_77 : decode cL_law 77 = .ok (.iload 8, 2) := by decide +kernel
theorem dL_law_79 : decode cL_law 79 = .ok (.imul, 1) := by decide +kernel
theorem dL_law_80 : decode cL_law 80 = .ok (.iload 9, 2) := by decide +kernel
theorem dL_law_82 : decode cL_law 82 = .ok (.iadd, 1) := by decide +kernel
theorem dL_law_83 : decode cL_law 83 = .ok (.invokestatic 149, 3) := by decide +kernel
theorem dL_law_86 : decode cL_law 86 = .ok (.istore 10, 2) := by decide +kernel
theorem dL_law_88 : decode cL_law 88 = .ok (.aload_n 2, 1) := by decide +kernel
theorem dL_law_89 : decode cL_law 89 = .ok (.bipush 9, 2) := by decide +kernel
theorem dL_law_91 : decode cL_law 91 = .ok (.iload 8, 2) := by decide +kernel
theorem dL_law_93 : decode cL_law 93 = .ok (.imul, 1) := by decide +kernel
theorem dL_law_94 : decode cL_law 94 = .ok (.iload 9, 2) := by decide +kernel
theorem dL_law_96 : decode cL_law 96 = .ok (.iadd, 1) := by decide +kernel
theorem dL_law_97 : decode cL_law 97 = .ok (.iconst 5, 1) := by decide +kernel
theorem dL_law_98 : decode cL_law 98 = .ok (.iload 8, 2) := by decide +kernel
theorem dL_law_100 : decode cL_law 100 = .ok (.imul, 1) := by decide +kernel
theorem dL_law_101 : decode cL_law 101 = .ok (.iload 9, 2) := by decide +kernel
theorem dL_law_103 : decode cL_law 103 = .ok (.iconst 5, 1) := by decide +kernel
theorem dL_law_104 : decode cL_law 104 = .ok (.if_icmp .ge 11, 3) := by decide +kernel
theorem dL_law_107 : decode cL_law 107 = .ok (.bipush 6, 2) := by decide +kernel
theorem dL_law_109 : decode cL_law 109 = .ok (.iload 9, 2) := by decide +kernel
theorem dL_law_111 : decode cL_law 111 = .ok (.imul, 1) := by decide +kernel
theorem dL_law_112 : decode cL_law 112 = .ok (.goto 11, 3) := by decide +kernel
theorem dL_law_115 : decode cL_law 115 = .ok (.bipush 48, 2) := by decide +kernel
theorem dL_law_117 : decode cL_law 117 = .ok (.bipush 6, 2) := by decide +kernel
theorem dL_law_119 : decode cL_law 119 = .ok (.iload 9, 2) := by decide +kernel
theorem dL_law_121 : decode cL_law 121 = .ok (.imul, 1) := by decide +kernel
theorem dL_law_122 : decode cL_law 122 = .ok (.isub, 1) := by decide +kernel
theorem dL_law_123 : decode cL_law 123 = .ok (.iadd, 1) := by decide +kernel
theorem dL_law_124 : decode cL_law 124 = .ok (.iload 10, 2) := by decide +kernel
theorem dL_law_126 : decode cL_law 126 = .ok (.bipush 9, 2) := by decide +kernel
theorem dL_law_128 : decode cL_law 128 = .ok (.invokestatic 153, 3) := by decide +kernel
theorem dL_law_131 : decode cL_law 131 = .ok (.iadd, 1) := by decide +kernel
