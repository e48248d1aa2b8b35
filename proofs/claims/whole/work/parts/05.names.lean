theorem dX7_dryTenths_42 : decode cX7_dryTenths 42 = .ok (.ireturn, 1) := by decide +kernel
theorem dX8_init_0 : decode cX8_init 0 = .ok (.aload_n 0, 1) := by decide +kernel
theorem dX8_init_1 : decode cX8_init 1 = .ok (.invokespecial 1, 3) := by decide +kernel
theorem dX8_init_4 : decode cX8_init 4 = .ok (.aload_n 0, 1) := by decide +kernel
theorem dX8_init_5 : decode cX8_init 5 = .ok (.bipush 16, 2) := by decide +kernel
theorem dX8_init_7 : decode cX8_init 7 = .ok (.newarray .int, 2) := by decide +kernel
theorem dX8_init_9 : decode cX8_init 9 = .ok (.putfield 7, 3) := by decide +kernel
theorem dX8_init_12 : decode cX8_init 12 = .ok (.aload_n 0, 1) := by decide +kernel
theorem dX8_init_13 : decode cX8_init 13 = .ok (.bipush 16, 2) := by decide +kernel
theorem dX8_init_15 : decode cX8_init 15 = .ok (.newarray .int, 2) := by decide +kernel
theorem dX8_init_17 : decode cX8_init 17 = .ok (.putfield 13, 3) := by decide +kernel
theorem dX8_init_20 : decode cX8_init 20 = .ok (.aload_n 0, 1) := by decide +kernel
theorem dX8_init_21 : decode cX8_init 21 = .ok (.bipush 16, 2) := by decide +kernel
theorem dX8_init_23 : decode cX8_init 23 = .ok (.newarray .int, 2) := by decide +kernel
theorem dX8_init_25 : decode cX8_init 25 = .ok (.putfield 16, 3) := by decide +kernel
theorem dX8_init_28 : decode cX8_init 28 = .ok (.aload_n 0, 1) := by decide +kernel
theorem dX8_init_29 : decode cX8_init 29 = .ok (.bipush 16, 2) := by decide +kernel
theorem dX8_init_31 : decode cX8_init 31 = .ok (.newarray .int, 2) := by decide +kernel
theorem dX8_init_33 : decode cX8_init 33 = .ok (.putfield 19, 3) := by decide +kernel
theorem dX8_init_36 : decode cX8_init 36 = .ok (.aload_n 0, 1) := by decide +kernel
theorem dX8_init_37 : decode cX8_init 37 = .ok (.bipush 16, 2) := by decide +kernel
theorem dX8_init_39 : decode cX8_init 39 = .ok (.newarray .int, 2) := by decide +kernel
theorem dX8_init_41 : decode cX8_init 41 = .ok (.putfield 22, 3) := by decide +kernel
theorem dX8_init_44 : decode cX8_init 44 = .ok (.aload_n 0, 1) := by decide +kernel
theorem dX8_init_45 : decode cX8_init 45 = .ok (.bipush 16, 2) := by decide +kernel
theorem dX8_init_47 : decode cX8_init 47 = .ok (.newarray .int, 2) := by decide +kernel
theorem dX8_init_49 : decode cX8_init 49 = .ok (.putfield 25, 3) := by decide +kernel
theorem dX8_init_52 : decode cX8_init 52 = .ok (.aload_n 0, 1) := by decide +kernel
theorem dX8_init_53 : decode cX8_init 53 = .ok (.bipush 16, 2) := by decide +kernel
theorem dX8_init_55 : decode cX8_init 55 = .ok (.newarray .int, 2) := by decide +kernel
theorem dX8_init_57 : decode cX8_init 57 = .ok (.putfield 28, 3) := by decide +kernel
theorem dX8_init_60 : decode cX8_init 60 = .ok (.aload_n 0, 1) := by decide +kernel
theorem dX8_init_61 : decode cX8_init 61 = .ok (.bipush 16, 2) := by decide +kernel
theorem dX8_init_63 : decode cX8_init 63 = .ok (.newarray .int, 2) := by decide +kernel
theorem dX8_init_65 : decode cX8_init 65 = .ok (.putfield 31, 3) := by decide +kernel
theorem dX8_init_68 : decode cX8_init 68 = .ok (.aload_n 0, 1) := by decide +kernel
theorem dX8_init_69 : decode cX8_init 69 = .ok (.sipush 832, 3) := by decide +kernel
theorem dX8_init_72 : decode cX8_init 72 = .ok (.newarray .long, 2) := by decide +kernel
theorem dX8_init_74 : decode cX8_init 74 = .ok (.putfield 34, 3) := by decide +kernel
theorem dX8_init_77 : decode cX8_init 77 = .ok (.aload_n 0, 1) := by decide +kernel
theorem dX8_init_78 : decode cX8_init 78 = .ok (.bipush 64, 2) := by decide +kernel
theorem dX8_init_80 : decode cX8_init 80 = .ok (.newarray .boolean, 2) := by decide +kernel
theorem dX8_init_82 : decode cX8_init 82 = .ok (.putfield 38, 3) := by decide +kernel
theorem dX8_init_85 : decode cX8_init 85 = .ok (.aload_n 0, 1) := by decide +kernel
theorem dX8_init_86 : decode cX8_init 86 = .ok (.bipush 64, 2) := by decide +kernel
theorem dX8_init_88 : decode cX8_init 88 = .ok (.newarray .boolean, 2) := by decide +kernel
theorem dX8_init_90 : decode cX8_init 90 = .ok (.putfield 42, 3) := by decide +kernel
theorem dX8_init_93 : decode cX8_init 93 = .ok (.aload_n 0, 1) := by decide +kernel
theorem dX8_init_94 : decode cX8_init 94 = .ok (.bipush 8, 2) := by decide +kernel
theorem dX8_init_96 : decode cX8_init 96 = .ok (.newarray .int, 2) := by decide +kernel
theorem dX8_init_98 : decode cX8_init 98 = .ok (.putfield 45, 3) := by decide +kernel
theorem dX8_init_101 : decode cX8_init 101 = .ok (.aload_n 0, 1) := by decide +kernel
theorem dX8_init_102 : decode cX8_init 102 = .ok (.bipush 8, 2) := by decide +kernel
theorem dX8_init_104 : decode cX8_init 104 = .ok (.newarray .int, 2) := by decide +kernel
theorem dX8_init_106 : decode cX8_init 106 = .ok (.putfield 48, 3) := by decide +kernel
theorem dX8_init_109 : decode cX8_init 109 = .ok (.aload_n 0, 1) := by decide +kernel
theorem dX8_init_110 : decode cX8_init 110 = .ok (.iconst 4, 1) := by decide +kernel
theorem dX8_init_111 : decode cX8_init 111 = .ok (.newarray .int, 2) := by decide +kernel
theorem dX8_init_113 : decode cX8_init 113 = .ok (.putfield 51, 3) := by decide +kernel
theorem dX8_init_116 : decode cX8_init 116 = .ok (.aload_n 0, 1) := by decide +kernel
theorem dX8_init_117 : decode cX8_init 117 = .ok (.iconst 4, 1) := by decide +kernel
theorem dX8_init_118 : decode cX8_init 118 = .ok (.newarray .int, 2) := by decide +kernel
theorem dX8_init_120 : decode cX8_init 120 = .ok (.putfield 54, 3) := by decide +kernel
theorem dX8_init_123 : decode cX8_init 123 = .ok (.aload_n 0, 1) := by decide +kernel
theorem dX8_init_124 : decode cX8_init 124 = .ok (.sipush 240, 3) := by decide +kernel
theorem dX8_init_127 : decode cX8_init 127 = .ok (.newarray .int, 2) := by decide +kernel
theorem dX8_init_129 : decode cX8_init 129 = .ok (.putfield 57, 3) := by decide +kernel
theorem dX8_init_132 : decode cX8_init 132 = .ok (.aload_n 0, 1) := by decide +kernel
theorem dX8_init_133 : decode cX8_init 133 = .ok (.bipush 60, 2) := by decide +kernel
theorem dX8_init_135 : decode cX8_init 135 = .ok (.newarray .int, 2) := by decide +kernel
theorem dX8_init_137 : decode cX8_init 137 = .ok (.putfield 60, 3) := by decide +kernel
theorem dX8_init_140 : decode cX8_init 140 = .ok (.iconst 0, 1) := by decide +kernel
theorem dX8_init_141 : decode cX8_init 141 = .ok (.istore_n 1, 1) := by decide +kernel
theorem dX8_init_142 : decode cX8_init 142 = .ok (.iload_n 1, 1) := by decide +kernel
theorem dX8_init_143 : decode cX8_init 143 = .ok (.iconst 4, 1) := by decide +kernel
theorem dX8_init_144 : decode cX8_init 144 = .ok (.if_icmp .ge 16, 3) := by decide +kernel
theorem dX8_init_147 : decode cX8_init 147 = .ok (.aload_n 0, 1) := by decide +kernel
theorem dX8_init_148 : decode cX8_init 148 = .ok (.getfield 51, 3) := by decide +kernel
theorem dX8_init_151 : decode cX8_init 151 = .ok (.iload_n 1, 1) := by decide +kernel
theorem dX8_init_152 : decode cX8_init 152 = .ok (.iconst (-1), 1) := by decide +kernel
theorem dX8_init_153 : decode cX8_init 153 = .ok (.iastore, 1) := by decide +kernel
theorem dX8_init_154 : decode cX8_init 154 = .ok (.iinc 1 1, 3) := by decide +kernel
theorem dX8_init_157 : decode cX8_init 157 = .ok (.goto (-15), 3) := by decide +kernel
theorem dX8_init_160 : decode cX8_init 160 = .ok (.return_, 1) := by decide +kernel
theorem dX8_in_0 : decode cX8_in 0 = .ok (.lload_n 0, 1) := by decide +kernel
theorem dX8_in_1 : decode cX8_in 1 = .ok (.lload_n 2, 1) := by decide +kernel
theorem dX8_in_2 : decode cX8_in 2 = .ok (.lcmp, 1) := by decide +kernel
theorem dX8_in_3 : decode cX8_in 3 = .ok (.ifCond .lt 14, 3) := by decide +kernel
theorem dX8_in_6 : decode cX8_in 6 = .ok (.lload_n 0, 1) := by decide +kernel
theorem dX8_in_7 : decode cX8_in 7 = .ok (.lload 4, 2) := by decide +kernel
theorem dX8_in_9 : decode cX8_in 9 = .ok (.lcmp, 1) := by decide +kernel
theorem dX8_in_10 : decode cX8_in 10 = .ok (.ifCond .gt 7, 3) := by decide +kernel
theorem dX8_in_13 : decode cX8_in 13 = .ok (.iconst 1, 1) := by decide +kernel
theorem dX8_in_14 : decode cX8_in 14 = .ok (.goto 4, 3) := by decide +kernel
theorem dX8_in_17 : decode cX8_in 17 = .ok (.iconst 0, 1) := by decide +kernel
theorem dX8_in_18 : decode cX8_in 18 = .ok (.ireturn, 1) := by decide +kernel
theorem dX8_lost_0 : decode cX8_lost 0 = .ok (.ldc2_w 63, 3) := by decide +kernel
theorem dX8_lost_3 : decode cX8_lost 3 = .ok (.lreturn, 1) := by decide +kernel
theorem dX8_tens_0 : decode cX8_tens 0 = .ok (.lconst 1, 1) := by decide +kernel
theorem dX8_tens_1 : decode cX8_tens 1 = .ok (.lstore_n 1, 1) := by decide +kernel
theorem dX8_tens_2 : decode cX8_tens 2 = .ok (.iconst 0, 1) := by decide +kernel
theorem dX8_tens_3 : decode cX8_tens 3 = .ok (.istore_n 3, 1) := by decide +kernel
theorem dX8_tens_4 : decode cX8_tens 4 = .ok (.iload_n 3, 1) := by decide +kernel
theorem dX8_tens_5 : decode cX8_tens 5 = .ok (.iload_n 0, 1) := by decide +kernel
theorem dX8_tens_6 : decode cX8_tens 6 = .ok (.if_icmp .ge 15, 3) := by decide +kernel
theorem dX8_tens_9 : decode cX8_tens 9 = .ok (.lload_n 1, 1) := by decide +kernel
theorem dX8_tens_10 : decode cX8_tens 10 = .ok (.ldc2_w 65, 3) := by decide +kernel
theorem dX8_tens_13 : decode cX8_tens 13 = .ok (.lmul, 1) := by decide +kernel
theorem dX8_tens_14 : decode cX8_tens 14 = .ok (.lstore_n 1, 1) := by decide +kernel
theorem dX8_tens_15 : decode cX8_tens 15 = .ok (.iinc 3 1, 3) := by decide +kernel
theorem dX8_tens_18 : decode cX8_tens 18 = .ok (.goto (-14), 3) := by decide +kernel
theorem dX8_tens_21 : decode cX8_tens 21 = .ok (.lload_n 1, 1) := by decide +kernel
theorem dX8_tens_22 : decode cX8_tens 22 = .ok (.lreturn, 1) := by decide +kernel
theorem dX8_told_0 : decode cX8_told 0 = .ok (.lload_n 0, 1) := by decide +kernel
theorem dX8_told_1 : decode cX8_told 1 = .ok (.lstore 5, 2) := by decide +kernel
theorem dX8_told_3 : decode cX8_told 3 = .ok (.lload_n 2, 1) := by decide +kernel
theorem dX8_told_4 : decode cX8_told 4 = .ok (.lstore 7, 2) := by decide +kernel
theorem dX8_told_6 : decode cX8_told 6 = .ok (.lload 7, 2) := by decide +kernel
theorem dX8_told_8 : decode cX8_told 8 = .ok (.lconst 0, 1) := by decide +kernel
theorem dX8_told_9 : decode cX8_told 9 = .ok (.lcmp, 1) := by decide +kernel
theorem dX8_told_10 : decode cX8_told 10 = .ok (.ifCond .eq 21, 3) := by decide +kernel
theorem dX8_told_13 : decode cX8_told 13 = .ok (.lload 5, 2) := by decide +kernel
theorem dX8_told_15 : decode cX8_told 15 = .ok (.lload 7, 2) := by decide +kernel
theorem dX8_told_17 : decode cX8_told 17 = .ok (.lrem, 1) := by decide +kernel
theorem dX8_told_18 : decode cX8_told 18 = .ok (.lstore 9, 2) := by decide +kernel
theorem dX8_told_20 : decode cX8_told 20 = .ok (.lload 7, 2) := by decide +kernel
theorem dX8_told_22 : decode cX8_told 22 = .ok (.lstore 5, 2) := by decide +kernel
theorem dX8_told_24 : decode cX8_told 24 = .ok (.lload 9, 2) := by decide +kernel
theorem dX8_told_26 : decode cX8_told 26 = .ok (.lstore 7, 2) := by decide +kernel
theorem dX8_told_28 : decode cX8_told 28 = .ok (.goto (-22), 3) := by decide +kernel
theorem dX8_told_31 : decode cX8_told 31 = .ok (.iload 4, 2) := by decide +kernel
theorem dX8_told_33 : decode cX8_told 33 = .ok (.ifCond .ne 7, 3) := by decide +kernel
theorem dX8_told_36 : decode cX8_told 36 = .ok (.lload_n 0, 1) := by decide +kernel
theorem dX8_told_37 : decode cX8_told 37 = .ok (.goto 4, 3) := by decide +kernel
theorem dX8_told_40 : decode cX8_told 40 = .ok (.lload_n 2, 1) := by decide +kernel
theorem dX8_told_41 : decode cX8_told 41 = .ok (.lload 5, 2) := by decide +kernel
theorem dX8_told_43 : decode cX8_told 43 = .ok (.ldiv, 1) := by decide +kernel
theorem dX8_told_44 : decode cX8_told 44 = .ok (.lreturn, 1) := by decide +kernel
theorem dX8_refused_0 : decode cX8_refused 0 = .ok (.aload_n 0, 1) := by decide +kernel
theorem dX8_refused_1 : decode cX8_refused 1 = .ok (.iconst 0, 1) := by decide +kernel
theorem dX8_refused_2 : decode cX8_refused 2 = .ok (.putfield 67, 3) := by decide +kernel
theorem dX8_refused_5 : decode cX8_refused 5 = .ok (.iload_n 1, 1) := by decide +kernel
theorem dX8_refused_6 : decode cX8_refused 6 = .ok (.ireturn, 1) := by decide +kernel
theorem dX8_failed_0 : decode cX8_failed 0 = .ok (.aload_n 0, 1) := by decide +kernel
theorem dX8_failed_1 : decode cX8_failed 1 = .ok (.iload_n 1, 1) := by decide +kernel
theorem dX8_failed_2 : decode cX8_failed 2 = .ok (.putfield 67, 3) := by decide +kernel
theorem dX8_failed_5 : decode cX8_failed 5 = .ok (.bipush (-10), 2) := by decide +kernel
theorem dX8_failed_7 : decode cX8_failed 7 = .ok (.iload_n 1, 1) := by decide +kernel
theorem dX8_failed_8 : decode cX8_failed 8 = .ok (.isub, 1) := by decide +kernel
theorem dX8_failed_9 : decode cX8_failed 9 = .ok (.ireturn, 1) := by decide +kernel
set_option maxRecDepth 20000 in
theorem ggX8_failedLong_X8_lost : GoodIn wsX8_failedLong wsX8_lost := goodIn_r _ [5, 6] (by decide +kernel) (by decide +kernel)
set_option maxRecDepth 20000 in
theorem gX8_failedLong_X8_lost : GoodIn wsX8_failedLong (va_wsS RX8 71 yX8_lost wsX8_lost) := goodIn_app (goodIn_of _ (by decide +kernel)) ggX8_failedLong_X8_lost
theorem dX8_failedLong_0 : decode cX8_failedLong 0 = .ok (.aload_n 0, 1) := by decide +kernel
theorem dX8_failedLong_1 : decode cX8_failedLong 1 = .ok (.iload_n 1, 1) := by decide +kernel
theorem dX8_failedLong_2 : decode cX8_failedLong 2 = .ok (.putfield 67, 3) := by decide +kernel
theorem dX8_failedLong_5 : decode cX8_failedLong 5 = .ok (.invokestatic 71, 3) := by decide +kernel
theorem dX8_failedLong_8 : decode cX8_failedLong 8 = .ok (.lreturn, 1) := by decide +kernel
set_option maxRecDepth 20000 in
theorem ggX8_noPlace_X8_in : GoodIn wsX8_noPlace wsX8_in := goodIn_r _ [5] (by decide +kernel) (by decide +kernel)
set_option maxRecDepth 20000 in
theorem gX8_noPlace_X8_in : GoodIn wsX8_noPlace (va_wsS RX8 78 yX8_in wsX8_in) := goodIn_app (goodIn_of _ (by decide +kernel)) ggX8_noPlace_X8_in
theorem dX8_noPlace_0 : decode cX8_noPlace 0 = .ok (.iload_n 1, 1) := by decide +kernel
theorem dX8_noPlace_1 : decode cX8_noPlace 1 = .ok (.i2l, 1) := by decide +kernel
theorem dX8_noPlace_2 : decode cX8_noPlace 2 = .ok (.lconst 0, 1) := by decide +kernel
theorem dX8_noPlace_3 : decode cX8_noPlace 3 = .ok (.aload_n 0, 1) := by decide +kernel
theorem dX8_noPlace_4 : decode cX8_noPlace 4 = .ok (.getfield 75, 3) := by decide +kernel
theorem dX8_noPlace_7 : decode cX8_noPlace 7 = .ok (.i2l, 1) := by decide +kernel
theorem dX8_noPlace_8 : decode cX8_noPlace 8 = .ok (.lconst 1, 1) := by decide +kernel
theorem dX8_noPlace_9 : decode cX8_noPlace 9 = .ok (.lsub, 1) := by decide +kernel
theorem dX8_noPlace_10 : decode cX8_noPlace 10 = .ok (.invokestatic 78, 3) := by decide +kernel
theorem dX8_noPlace_13 : decode cX8_noPlace 13 = .ok (.ifCond .ne 7, 3) := by decide +kernel
theorem dX8_noPlace_16 : decode cX8_noPlace 16 = .ok (.iconst 1, 1) := by decide +kernel
theorem dX8_noPlace_17 : decode cX8_noPlace 17 = .ok (.goto 4, 3) := by decide +kernel
theorem dX8_noPlace_20 : decode cX8_noPlace 20 = .ok (.iconst 0, 1) := by decide +kernel
theorem dX8_noPlace_21 : decode cX8_noPlace 21 = .ok (.ireturn, 1) := by decide +kernel
theorem dX8_codeAt_0 : decode cX8_codeAt 0 = .ok (.aload_n 0, 1) := by decide +kernel
theorem dX8_codeAt_1 : decode cX8_codeAt 1 = .ok (.getfield 82, 3) := by decide +kernel
theorem dX8_codeAt_4 : decode cX8_codeAt 4 = .ok (.iload_n 2, 1) := by decide +kernel
theorem dX8_codeAt_5 : decode cX8_codeAt 5 = .ok (.if_icmp .ge 17, 3) := by decide +kernel
theorem dX8_codeAt_8 : decode cX8_codeAt 8 = .ok (.aload_n 0, 1) := by decide +kernel
theorem dX8_codeAt_9 : decode cX8_codeAt 9 = .ok (.getfield 57, 3) := by decide +kernel
theorem dX8_codeAt_12 : decode cX8_codeAt 12 = .ok (.iload_n 1, 1) := by decide +kernel
theorem dX8_codeAt_13 : decode cX8_codeAt 13 = .ok (.aload_n 0, 1) := by decide +kernel
theorem dX8_codeAt_14 : decode cX8_codeAt 14 = .ok (.getfield 82, 3) := by decide +kernel
theorem dX8_codeAt_17 : decode cX8_codeAt 17 = .ok (.iadd, 1) := by decide +kernel
theorem dX8_codeAt_18 : decode cX8_codeAt 18 = .ok (.iaload, 1) := by decide +kernel
theorem dX8_codeAt_19 : decode cX8_codeAt 19 = .ok (.goto 5, 3) := by decide +kernel
theorem dX8_codeAt_22 : decode cX8_codeAt 22 = .ok (.bipush (-9), 2) := by decide +kernel
theorem dX8_codeAt_24 : decode cX8_codeAt 24 = .ok (.ireturn, 1) := by decide +kernel
set_option maxRecDepth 20000 in
theorem ggX8_figure_X8_codeAt : GoodIn wsX8_figure wsX8_codeAt := goodIn_r _ [6, 1, 7, 11, 12, 13, 14, 15, 16, 17, 18, 19, 20, 21, 22, 23, 24, 25, 26, 27, 28, 29, 30, 31, 32, 33, 34, 35, 36, 37, 38, 39, 40] (by decide +kernel) (by decide +kernel)
set_option maxRecDepth 20000 in
theorem gX8_figure_X8_codeAt : GoodIn wsX8_figure (wsV RX8 85 RX8 yX8_codeAt wsX8_codeAt) := goodIn_app (goodIn_of _ (by decide +kernel)) ggX8_figure_X8_codeAt
set_option maxRecDepth 20000 in
theorem ggX8_figure_X8_in : GoodIn wsX8_figure wsX8_in := goodIn_r _ [10] (by decide +kernel) (by decide +kernel)
set_option maxRecDepth 20000 in
theorem gX8_figure_X8_in : GoodIn wsX8_figure (va_wsS RX8 78 yX8_in wsX8_in) := goodIn_app (goodIn_of _ (by decide +kernel)) ggX8_figure_X8_in
theorem dX8_figure_0 : decode cX8_figure 0 = .ok (.aload_n 0, 1) := by decide +kernel
theorem dX8_figure_1 : decode cX8_figure 1 = .ok (.iload_n 1, 1) := by decide +kernel
theorem dX8_figure_2 : decode cX8_figure 2 = .ok (.iload_n 2, 1) := by decide +kernel
theorem dX8_figure_3 : decode cX8_figure 3 = .ok (.invokevirtual 85, 3) := by decide +kernel
theorem dX8_figure_6 : decode cX8_figure 6 = .ok (.bipush 48, 2) := by decide +kernel
theorem dX8_figure_8 : decode cX8_figure 8 = .ok (.isub, 1) := by decide +kernel
theorem dX8_figure_9 : decode cX8_figure 9 = .ok (.istore 4, 2) := by decide +kernel
theorem dX8_figure_11 : decode cX8_figure 11 = .ok (.iload 4, 2) := by decide +kernel
theorem dX8_figure_13 : decode cX8_figure 13 = .ok (.i2l, 1) := by decide +kernel
theorem dX8_figure_14 : decode cX8_figure 14 = .ok (.lconst 0, 1) := by decide +kernel
theorem dX8_figure_15 : decode cX8_figure 15 = .ok (.iload_n 3, 1) := by decide +kernel
theorem dX8_figure_16 : decode cX8_figure 16 = .ok (.i2l, 1) := by decide +kernel
theorem dX8_figure_17 : decode cX8_figure 17 = .ok (.invokestatic 78, 3) := by decide +kernel
theorem dX8_figure_20 : decode cX8_figure 20 = .ok (.istore 5, 2) := by decide +kernel
theorem dX8_figure_22 : decode cX8_figure 22 = .ok (.aload_n 0, 1) := by decide +kernel
theorem dX8_figure_23 : decode cX8_figure 23 = .ok (.dup, 1) := by decide +kernel
theorem dX8_figure_24 : decode cX8_figure 24 = .ok (.getfield 82, 3) := by decide +kernel
theorem dX8_figure_27 : decode cX8_figure 27 = .ok (.iload 5, 2) := by decide +kernel
theorem dX8_figure_29 : decode cX8_figure 29 = .ok (.ifCond .eq 7, 3) := by decide +kernel
theorem dX8_figure_32 : decode cX8_figure 32 = .ok (.iconst 1, 1) := by decide +kernel
theorem dX8_figure_33 : decode cX8_figure 33 = .ok (.goto 4, 3) := by decide +kernel
theorem dX8_figure_36 : decode cX8_figure 36 = .ok (.iconst 0, 1) := by decide +kernel
theorem dX8_figure_37 : decode cX8_figure 37 = .ok (.iadd, 1) := by decide +kernel
theorem dX8_figure_38 : decode cX8_figure 38 = .ok (.putfield 82, 3) := by decide +kernel
theorem dX8_figure_41 : decode cX8_figure 41 = .ok (.iload 5, 2) := by decide +kernel
theorem dX8_figure_43 : decode cX8_figure 43 = .ok (.ifCond .eq 8, 3) := by decide +kernel
theorem dX8_figure_46 : decode cX8_figure 46 = .ok (.iload 4, 2) := by decide +kernel
theorem dX8_figure_48 : decode cX8_figure 48 = .ok (.goto 5, 3) := by decide +kernel
theorem dX8_figure_51 : decode cX8_figure 51 = .ok (.bipush (-9), 2) := by decide +kernel
theorem dX8_figure_53 : decode cX8_figure 53 = .ok (.ireturn, 1) := by decide +kernel
set_option maxRecDepth 20000 in
theorem ggX8_readsCell_X8_codeAt : GoodIn wsX8_readsCell wsX8_codeAt := goodIn_r _ [11, 2, 12, 20, 21, 22, 23, 24, 25, 26, 27, 28, 29, 30, 31, 32, 33, 34, 35, 36, 37, 38, 39, 40, 41, 42, 43, 44, 45, 46, 47, 48, 49] (by decide +kernel) (by decide +kernel)
set_option maxRecDepth 20000 in
theorem gX8_readsCell_X8_codeAt : GoodIn wsX8_readsCell (wsV RX8 85 RX8 yX8_codeAt wsX8_codeAt) := goodIn_app (goodIn_of _ (by decide +kernel)) ggX8_readsCell_X8_codeAt
set_option maxRecDepth 20000 in
theorem ggX8_readsCell_X8_figure : GoodIn wsX8_readsCell wsX8_figure := goodIn_r _ [16, 2, 7, 8, 9, 10, 11, 12, 17, 18, 19, 20, 21, 22, 23, 24, 25, 26, 27, 28, 29, 30, 31, 32, 33, 34, 35, 36, 37, 38, 39, 40, 41, 42, 43, 44, 45, 46, 47, 48, 49] (by decide +kernel) (by decide +kernel)
set_option maxRecDepth 20000 in
theorem gX8_readsCell_X8_figure : GoodIn wsX8_readsCell (wsV RX8 92 RX8 yX8_figure wsX8_figure) := goodIn_app (goodIn_of _ (by decide +kernel)) ggX8_readsCell_X8_figure
theorem dX8_readsCell_0 : decode cX8_readsCell 0 = .ok (.aload_n 0, 1) := by decide +kernel
theorem dX8_readsCell_1 : decode cX8_readsCell 1 = .ok (.iload_n 1, 1) := by decide +kernel
theorem dX8_readsCell_2 : decode cX8_readsCell 2 = .ok (.iload_n 2, 1) := by decide +kernel
theorem dX8_readsCell_3 : decode cX8_readsCell 3 = .ok (.invokevirtual 85, 3) := by decide +kernel
theorem dX8_readsCell_6 : decode cX8_readsCell 6 = .ok (.istore_n 3, 1) := by decide +kernel
theorem dX8_readsCell_7 : decode cX8_readsCell 7 = .ok (.aload_n 0, 1) := by decide +kernel
theorem dX8_readsCell_8 : decode cX8_readsCell 8 = .ok (.getfield 89, 3) := by decide +kernel
theorem dX8_readsCell_11 : decode cX8_readsCell 11 = .ok (.bipush 16, 2) := by decide +kernel
theorem dX8_readsCell_13 : decode cX8_readsCell 13 = .ok (.if_icmp .eq 27, 3) := by decide +kernel
theorem dX8_readsCell_16 : decode cX8_readsCell 16 = .ok (.iload_n 3, 1) := by decide +kernel
theorem dX8_readsCell_17 : decode cX8_readsCell 17 = .ok (.bipush 100, 2) := by decide +kernel
theorem dX8_readsCell_19 : decode cX8_readsCell 19 = .ok (.if_icmp .eq 23, 3) := by decide +kernel
theorem dX8_readsCell_22 : decode cX8_readsCell 22 = .ok (.iload_n 3, 1) := by decide +kernel
theorem dX8_readsCell_23 : decode cX8_readsCell 23 = .ok (.bipush 103, 2) := by decide +kernel
theorem dX8_readsCell_25 : decode cX8_readsCell 25 = .ok (.if_icmp .eq 17, 3) := by decide +kernel
theorem dX8_readsCell_28 : decode cX8_readsCell 28 = .ok (.iload_n 3, 1) := by decide +kernel
theorem dX8_readsCell_29 : decode cX8_readsCell 29 = .ok (.bipush 109, 2) := by decide +kernel
theorem dX8_readsCell_31 : decode cX8_readsCell 31 = .ok (.if_icmp .eq 11, 3) := by decide +kernel
theorem dX8_readsCell_34 : decode cX8_readsCell 34 = .ok (.iload_n 3, 1) := by decide +kernel
theorem dX8_readsCell_35 : decode cX8_readsCell 35 = .ok (.bipush 99, 2) := by decide +kernel
theorem dX8_readsCell_37 : decode cX8_readsCell 37 = .ok (.if_icmp .eq 5, 3) := by decide +kernel
theorem dX8_readsCell_40 : decode cX8_readsCell 40 = .ok (.iconst 0, 1) := by decide +kernel
theorem dX8_readsCell_41 : decode cX8_readsCell 41 = .ok (.ireturn, 1) := by decide +kernel
theorem dX8_readsCell_42 : decode cX8_readsCell 42 = .ok (.aload_n 0, 1) := by decide +kernel
theorem dX8_readsCell_43 : decode cX8_readsCell 43 = .ok (.dup, 1) := by decide +kernel
theorem dX8_readsCell_44 : decode cX8_readsCell 44 = .ok (.getfield 82, 3) := by decide +kernel
theorem dX8_readsCell_47 : decode cX8_readsCell 47 = .ok (.iconst 1, 1) := by decide +kernel
theorem dX8_readsCell_48 : decode cX8_readsCell 48 = .ok (.iadd, 1) := by decide +kernel
theorem dX8_readsCell_49 : decode cX8_readsCell 49 = .ok (.putfield 82, 3) := by decide +kernel
theorem dX8_readsCell_52 : decode cX8_readsCell 52 = .ok (.iload_n 3, 1) := by decide +kernel
theorem dX8_readsCell_53 : decode cX8_readsCell 53 = .ok (.bipush 100, 2) := by decide +kernel
theorem dX8_readsCell_55 : decode cX8_readsCell 55 = .ok (.if_icmp .ne 7, 3) := by decide +kernel
theorem dX8_readsCell_58 : decode cX8_readsCell 58 = .ok (.iconst 0, 1) := by decide +kernel
theorem dX8_readsCell_59 : decode cX8_readsCell 59 = .ok (.goto 11, 3) := by decide +kernel
theorem dX8_readsCell_62 : decode cX8_readsCell 62 = .ok (.aload_n 0, 1) := by decide +kernel
theorem dX8_readsCell_63 : decode cX8_readsCell 63 = .ok (.iload_n 1, 1) := by decide +kernel
theorem dX8_readsCell_64 : decode cX8_readsCell 64 = .ok (.iload_n 2, 1) := by decide +kernel
theorem dX8_readsCell_65 : decode cX8_readsCell 65 = .ok (.bipush 9, 2) := by decide +kernel
theorem dX8_readsCell_67 : decode cX8_readsCell 67 = .ok (.invokevirtual 92, 3) := by decide +kernel
theorem dX8_readsCell_70 : decode cX8_readsCell 70 = .ok (.istore 4, 2) := by decide +kernel
theorem dX8_readsCell_72 : decode cX8_readsCell 72 = .ok (.iload 4, 2) := by decide +kernel
theorem dX8_readsCell_74 : decode cX8_readsCell 74 = .ok (.ifCond .ge 5, 3) := by decide +kernel
theorem dX8_readsCell_77 : decode cX8_readsCell 77 = .ok (.iconst 0, 1) := by decide +kernel
theorem dX8_readsCell_78 : decode cX8_readsCell 78 = .ok (.ireturn, 1) := by decide +kernel
theorem dX8_readsCell_79 : decode cX8_readsCell 79 = .ok (.aload_n 0, 1) := by decide +kernel
theorem dX8_readsCell_80 : decode cX8_readsCell 80 = .ok (.getfield 22, 3) := by decide +kernel
theorem dX8_readsCell_83 : decode cX8_readsCell 83 = .ok (.aload_n 0, 1) := by decide +kernel
theorem dX8_readsCell_84 : decode cX8_readsCell 84 = .ok (.getfield 89, 3) := by decide +kernel
theorem dX8_readsCell_87 : decode cX8_readsCell 87 = .ok (.iload_n 3, 1) := by decide +kernel
theorem dX8_readsCell_88 : decode cX8_readsCell 88 = .ok (.bipush 109, 2) := by decide +kernel
theorem dX8_readsCell_90 : decode cX8_readsCell 90 = .ok (.if_icmp .ne 7, 3) := by decide +kernel
theorem dX8_readsCell_93 : decode cX8_readsCell 93 = .ok (.iconst 1, 1) := by decide +kernel
theorem dX8_readsCell_94 : decode cX8_readsCell 94 = .ok (.goto 14, 3) := by decide +kernel
theorem dX8_readsCell_97 : decode cX8_readsCell 97 = .ok (.iload_n 3, 1) := by decide +kernel
theorem dX8_readsCell_98 : decode cX8_readsCell 98 = .ok (.bipush 99, 2) := by decide +kernel
theorem dX8_readsCell_100 : decode cX8_readsCell 100 = .ok (.if_icmp .ne 7, 3) := by decide +kernel
theorem dX8_readsCell_103 : decode cX8_readsCell 103 = .ok (.iconst 2, 1) := by decide +kernel
theorem dX8_readsCell_104 : decode cX8_readsCell 104 = .ok (.goto 4, 3) := by decide +kernel
theorem dX8_readsCell_107 : decode cX8_readsCell 107 = .ok (.iconst 0, 1) := by decide +kernel
theorem dX8_readsCell_108 : decode cX8_readsCell 108 = .ok (.iastore, 1) := by decide +kernel
theorem dX8_readsCell_109 : decode cX8_readsCell 109 = .ok (.aload_n 0, 1) := by decide +kernel
theorem dX8_readsCell_110 : decode cX8_readsCell 110 = .ok (.getfield 25, 3) := by decide +kernel
theorem dX8_readsCell_113 : decode cX8_readsCell 113 = .ok (.aload_n 0, 1) := by decide +kernel
theorem dX8_readsCell_114 : decode cX8_readsCell 114 = .ok (.getfield 89, 3) := by decide +kernel
theorem dX8_readsCell_117 : decode cX8_readsCell 117 = .ok (.iload 4, 2) := by decide +kernel
theorem dX8_readsCell_119 : decode cX8_readsCell 119 = .ok (.iastore, 1) := by decide +kernel
theorem dX8_readsCell_120 : decode cX8_readsCell 120 = .ok (.aload_n 0, 1) := by decide +kernel
theorem dX8_readsCell_121 : decode cX8_readsCell 121 = .ok (.getfield 28, 3) := by decide +kernel
theorem dX8_readsCell_124 : decode cX8_readsCell 124 = .ok (.aload_n 0, 1) := by decide +kernel
theorem dX8_readsCell_125 : decode cX8_readsCell 125 = .ok (.getfield 89, 3) := by decide +kernel
theorem dX8_readsCell_128 : decode cX8_readsCell 128 = .ok (.iload_n 3, 1) := by decide +kernel
theorem dX8_readsCell_129 : decode cX8_readsCell 129 = .ok (.bipush 100, 2) := by decide +kernel
theorem dX8_readsCell_131 : decode cX8_readsCell 131 = .ok (.if_icmp .ne 7, 3) := by decide +kernel
theorem dX8_readsCell_134 : decode cX8_readsCell 134 = .ok (.iconst 1, 1) := by decide +kernel
theorem dX8_readsCell_135 : decode cX8_readsCell 135 = .ok (.goto 4, 3) := by decide +kernel
theorem dX8_readsCell_138 : decode cX8_readsCell 138 = .ok (.iconst 0, 1) := by decide +kernel
theorem dX8_readsCell_139 : decode cX8_readsCell 139 = .ok (.iastore, 1) := by decide +kernel
theorem dX8_readsCell_140 : decode cX8_readsCell 140 = .ok (.aload_n 0, 1) := by decide +kernel
theorem dX8_readsCell_141 : decode cX8_readsCell 141 = .ok (.iload_n 1, 1) := by decide +kernel
theorem dX8_readsCell_142 : decode cX8_readsCell 142 = .ok (.iload_n 2, 1) := by decide +kernel
theorem dX8_readsCell_143 : decode cX8_readsCell 143 = .ok (.invokevirtual 85, 3) := by decide +kernel
theorem dX8_readsCell_146 : decode cX8_readsCell 146 = .ok (.bipush 94, 2) := by decide +kernel
theorem dX8_readsCell_148 : decode cX8_readsCell 148 = .ok (.if_icmp .ne 7, 3) := by decide +kernel
theorem dX8_readsCell_151 : decode cX8_readsCell 151 = .ok (.iconst 1, 1) := by decide +kernel
theorem dX8_readsCell_152 : decode cX8_readsCell 152 = .ok (.goto 4, 3) := by decide +kernel
theorem dX8_readsCell_155 : decode cX8_readsCell 155 = .ok (.iconst 0, 1) := by decide +kernel
theorem dX8_readsCell_156 : decode cX8_readsCell 156 = .ok (.istore 5, 2) := by decide +kernel
theorem dX8_readsCell_158 : decode cX8_readsCell 158 = .ok (.aload_n 0, 1) := by decide +kernel
theorem dX8_readsCell_159 : decode cX8_readsCell 159 = .ok (.getfield 31, 3) := by decide +kernel
theorem dX8_readsCell_162 : decode cX8_readsCell 162 = .ok (.aload_n 0, 1) := by decide +kernel
theorem dX8_readsCell_163 : decode cX8_readsCell 163 = .ok (.getfield 89, 3) := by decide +kernel
theorem dX8_readsCell_166 : decode cX8_readsCell 166 = .ok (.iload 5, 2) := by decide +kernel
theorem dX8_readsCell_168 : decode cX8_readsCell 168 = .ok (.ifCond .eq 7, 3) := by decide +kernel
theorem dX8_readsCell_171 : decode cX8_readsCell 171 = .ok (.iconst 1, 1) := by decide +kernel
theorem dX8_readsCell_172 : decode cX8_readsCell 172 = .ok (.goto 4, 3) := by decide +kernel
theorem dX8_readsCell_175 : decode cX8_readsCell 175 = .ok (.iconst 0, 1) := by decide +kernel
theorem dX8_readsCell_176 : decode cX8_readsCell 176 = .ok (.iastore, 1) := by decide +kernel
theorem dX8_readsCell_177 : decode cX8_readsCell 177 = .ok (.aload_n 0, 1) := by decide +kernel
theorem dX8_readsCell_178 : decode cX8_readsCell 178 = .ok (.dup, 1) := by decide +kernel
theorem dX8_readsCell_179 : decode cX8_readsCell 179 = .ok (.getfield 82, 3) := by decide +kernel
theorem dX8_readsCell_182 : decode cX8_readsCell 182 = .ok (.iload 5, 2) := by decide +kernel
theorem dX8_readsCell_184 : decode cX8_readsCell 184 = .ok (.ifCond .eq 7, 3) := by decide +kernel
theorem dX8_readsCell_187 : decode cX8_readsCell 187 = .ok (.iconst 1, 1) := by decide +kernel
theorem dX8_readsCell_188 : decode cX8_readsCell 188 = .ok (.goto 4, 3) := by decide +kernel
theorem dX8_readsCell_191 : decode cX8_readsCell 191 = .ok (.iconst 0, 1) := by decide +kernel
theorem dX8_readsCell_192 : decode cX8_readsCell 192 = .ok (.iadd, 1) := by decide +kernel
theorem dX8_readsCell_193 : decode cX8_readsCell 193 = .ok (.putfield 82, 3) := by decide +kernel
theorem dX8_readsCell_196 : decode cX8_readsCell 196 = .ok (.aload_n 0, 1) := by decide +kernel
theorem dX8_readsCell_197 : decode cX8_readsCell 197 = .ok (.dup, 1) := by decide +kernel
theorem dX8_readsCell_198 : decode cX8_readsCell 198 = .ok (.getfield 89, 3) := by decide +kernel
theorem dX8_readsCell_201 : decode cX8_readsCell 201 = .ok (.iconst 1, 1) := by decide +kernel
theorem dX8_readsCell_202 : decode cX8_readsCell 202 = .ok (.iadd, 1) := by decide +kernel
theorem dX8_readsCell_203 : decode cX8_readsCell 203 = .ok (.putfield 89, 3) := by decide +kernel
theorem dX8_readsCell_206 : decode cX8_readsCell 206 = .ok (.iconst 1, 1) := by decide +kernel
theorem dX8_readsCell_207 : decode cX8_readsCell 207 = .ok (.ireturn, 1) := by decide +kernel
set_option maxRecDepth 20000 in
theorem ggX8_readsRiver_X8_codeAt : GoodIn wsX8_readsRiver wsX8_codeAt := goodIn_r _ [8, 1, 9, 25, 26, 27, 28, 29, 30, 31, 32, 33, 34, 35, 36, 37, 38, 39, 40, 41, 42, 43, 44, 45, 46, 47, 48, 49, 50, 51, 52, 53, 54] (by decide +kernel) (by decide +kernel)
set_option maxRecDepth 20000 in
theorem gX8_readsRiver_X8_codeAt : GoodIn wsX8_readsRiver (wsV RX8 85 RX8 yX8_codeAt wsX8_codeAt) := goodIn_app (goodIn_of _ (by decide +kernel)) ggX8_readsRiver_X8_codeAt
set_option maxRecDepth 20000 in
theorem ggX8_readsRiver_X8_figure : GoodIn wsX8_readsRiver wsX8_figure := goodIn_r _ [13, 1, 4, 5, 6, 7, 8, 9, 14, 15, 16, 25, 26, 27, 28, 29, 30, 31, 32, 33, 34, 35, 36, 37, 38, 39, 40, 41, 42, 43, 44, 45, 46, 47, 48, 49, 50, 51, 52, 53, 54] (by decide +kernel) (by decide +kernel)
set_option maxRecDepth 20000 in
theorem gX8_readsRiver_X8_figure : GoodIn wsX8_readsRiver (wsV RX8 92 RX8 yX8_figure wsX8_figure) := goodIn_app (goodIn_of _ (by decide +kernel)) ggX8_readsRiver_X8_figure
set_option maxRecDepth 20000 in
theorem ggX8_readsRiver_X8_readsCell : GoodIn wsX8_readsRiver wsX8_readsCell := goodIn_r _ [20, 2, 1, 21, 22, 23, 24, 4, 5, 6, 7, 8, 9, 10, 11, 12, 13, 14, 15, 16, 25, 26, 27, 28, 29, 30, 31, 32, 33, 34, 35, 36, 37, 38, 39, 40, 41, 42, 43, 44, 45, 46, 47, 48, 49, 50, 51, 52, 53, 54] (by decide +kernel) (by decide +kernel)
set_option maxRecDepth 20000 in
theorem gX8_readsRiver_X8_readsCell : GoodIn wsX8_readsRiver (wsV RX8 99 RX8 yX8_readsCell wsX8_readsCell) := goodIn_app (goodIn_of _ (by decide +kernel)) ggX8_readsRiver_X8_readsCell
theorem dX8_readsRiver_0 : decode cX8_readsRiver 0 = .ok (.aload_n 0, 1) := by decide +kernel
theorem dX8_readsRiver_1 : decode cX8_readsRiver 1 = .ok (.iconst 0, 1) := by decide +kernel
theorem dX8_readsRiver_2 : decode cX8_readsRiver 2 = .ok (.putfield 82, 3) := by decide +kernel
theorem dX8_readsRiver_5 : decode cX8_readsRiver 5 = .ok (.aload_n 0, 1) := by decide +kernel
theorem dX8_readsRiver_6 : decode cX8_readsRiver 6 = .ok (.iconst 0, 1) := by decide +kernel
theorem dX8_readsRiver_7 : decode cX8_readsRiver 7 = .ok (.putfield 89, 3) := by decide +kernel
theorem dX8_readsRiver_10 : decode cX8_readsRiver 10 = .ok (.aload_n 0, 1) := by decide +kernel
theorem dX8_readsRiver_11 : decode cX8_readsRiver 11 = .ok (.iload_n 1, 1) := by decide +kernel
theorem dX8_readsRiver_12 : decode cX8_readsRiver 12 = .ok (.iload_n 2, 1) := by decide +kernel
theorem dX8_readsRiver_13 : decode cX8_readsRiver 13 = .ok (.invokevirtual 85, 3) := by decide +kernel
theorem dX8_readsRiver_16 : decode cX8_readsRiver 16 = .ok (.bipush 112, 2) := by decide +kernel
theorem dX8_readsRiver_18 : decode cX8_readsRiver 18 = .ok (.if_icmp .ne 7, 3) := by decide +kernel
theorem dX8_readsRiver_21 : decode cX8_readsRiver 21 = .ok (.iconst 1, 1) := by decide +kernel
theorem dX8_readsRiver_22 : decode cX8_readsRiver 22 = .ok (.goto 4, 3) := by decide +kernel
theorem dX8_readsRiver_25 : decode cX8_readsRiver 25 = .ok (.iconst 0, 1) := by decide +kernel
theorem dX8_readsRiver_26 : decode cX8_readsRiver 26 = .ok (.istore_n 3, 1) := by decide +kernel
theorem dX8_readsRiver_27 : decode cX8_readsRiver 27 = .ok (.aload_n 0, 1) := by decide +kernel
theorem dX8_readsRiver_28 : decode cX8_readsRiver 28 = .ok (.dup, 1) := by decide +kernel
theorem dX8_readsRiver_29 : decode cX8_readsRiver 29 = .ok (.getfield 82, 3) := by decide +kernel
theorem dX8_readsRiver_32 : decode cX8_readsRiver 32 = .ok (.iload_n 3, 1) := by decide +kernel
theorem dX8_readsRiver_33 : decode cX8_readsRiver 33 = .ok (.ifCond .eq 7, 3) := by decide +kernel
theorem dX8_readsRiver_36 : decode cX8_readsRiver 36 = .ok (.iconst 1, 1) := by decide +kernel
theorem dX8_readsRiver_37 : decode cX8_readsRiver 37 = .ok (.goto 4, 3) := by decide +kernel
theorem dX8_readsRiver_40 : decode cX8_readsRiver 40 = .ok (.iconst 0, 1) := by decide +kernel
theorem dX8_readsRiver_41 : decode cX8_readsRiver 41 = .ok (.iadd, 1) := by decide +kernel
theorem dX8_readsRiver_42 : decode cX8_readsRiver 42 = .ok (.putfield 82, 3) := by decide +kernel
theorem dX8_readsRiver_45 : decode cX8_readsRiver 45 = .ok (.aload_n 0, 1) := by decide +kernel
theorem dX8_readsRiver_46 : decode cX8_readsRiver 46 = .ok (.iload_n 3, 1) := by decide +kernel
theorem dX8_readsRiver_47 : decode cX8_readsRiver 47 = .ok (.ifCond .eq 13, 3) := by decide +kernel
theorem dX8_readsRiver_50 : decode cX8_readsRiver 50 = .ok (.aload_n 0, 1) := by decide +kernel
theorem dX8_readsRiver_51 : decode cX8_readsRiver 51 = .ok (.iload_n 1, 1) := by decide +kernel
theorem dX8_readsRiver_52 : decode cX8_readsRiver 52 = .ok (.iload_n 2, 1) := by decide +kernel
theorem dX8_readsRiver_53 : decode cX8_readsRiver 53 = .ok (.iconst 3, 1) := by decide +kernel
theorem dX8_readsRiver_54 : decode cX8_readsRiver 54 = .ok (.invokevirtual 92, 3) := by decide +kernel
theorem dX8_readsRiver_57 : decode cX8_readsRiver 57 = .ok (.goto 5, 3) := by decide +kernel
theorem dX8_readsRiver_60 : decode cX8_readsRiver 60 = .ok (.bipush (-9), 2) := by decide +kernel
theorem dX8_readsRiver_62 : decode cX8_readsRiver 62 = .ok (.putfield 96, 3) := by decide +kernel
theorem dX8_readsRiver_65 : decode cX8_readsRiver 65 = .ok (.aload_n 0, 1) := by decide +kernel
theorem dX8_readsRiver_66 : decode cX8_readsRiver 66 = .ok (.getfield 96, 3) := by decide +kernel
theorem dX8_readsRiver_69 : decode cX8_readsRiver 69 = .ok (.ifCond .lt 7, 3) := by decide +kernel
theorem dX8_readsRiver_72 : decode cX8_readsRiver 72 = .ok (.iconst 1, 1) := by decide +kernel
theorem dX8_readsRiver_73 : decode cX8_readsRiver 73 = .ok (.goto 4, 3) := by decide +kernel
theorem dX8_readsRiver_76 : decode cX8_readsRiver 76 = .ok (.iconst 0, 1) := by decide +kernel
theorem dX8_readsRiver_77 : decode cX8_readsRiver 77 = .ok (.istore_n 3, 1) := by decide +kernel
theorem dX8_readsRiver_78 : decode cX8_readsRiver 78 = .ok (.iload_n 3, 1) := by decide +kernel
theorem dX8_readsRiver_79 : decode cX8_readsRiver 79 = .ok (.ifCond .eq 29, 3) := by decide +kernel
theorem dX8_readsRiver_82 : decode cX8_readsRiver 82 = .ok (.aload_n 0, 1) := by decide +kernel
theorem dX8_readsRiver_83 : decode cX8_readsRiver 83 = .ok (.getfield 89, 3) := by decide +kernel
theorem dX8_readsRiver_86 : decode cX8_readsRiver 86 = .ok (.iconst 2, 1) := by decide +kernel
theorem dX8_readsRiver_87 : decode cX8_readsRiver 87 = .ok (.if_icmp .lt 11, 3) := by decide +kernel
theorem dX8_readsRiver_90 : decode cX8_readsRiver 90 = .ok (.aload_n 0, 1) := by decide +kernel
theorem dX8_readsRiver_91 : decode cX8_readsRiver 91 = .ok (.getfield 82, 3) := by decide +kernel
theorem dX8_readsRiver_94 : decode cX8_readsRiver 94 = .ok (.iload_n 2, 1) := by decide +kernel
theorem dX8_readsRiver_95 : decode cX8_readsRiver 95 = .ok (.if_icmp .ge 13, 3) := by decide +kernel
theorem dX8_readsRiver_98 : decode cX8_readsRiver 98 = .ok (.aload_n 0, 1) := by decide +kernel
theorem dX8_readsRiver_99 : decode cX8_readsRiver 99 = .ok (.iload_n 1, 1) := by decide +kernel
theorem dX8_readsRiver_100 : decode cX8_readsRiver 100 = .ok (.iload_n 2, 1) := by decide +kernel
theorem dX8_readsRiver_101 : decode cX8_readsRiver 101 = .ok (.invokevirtual 99, 3) := by decide +kernel
theorem dX8_readsRiver_104 : decode cX8_readsRiver 104 = .ok (.istore_n 3, 1) := by decide +kernel
theorem dX8_readsRiver_105 : decode cX8_readsRiver 105 = .ok (.goto (-27), 3) := by decide +kernel
theorem dX8_readsRiver_108 : decode cX8_readsRiver 108 = .ok (.iload_n 3, 1) := by decide +kernel
theorem dX8_readsRiver_109 : decode cX8_readsRiver 109 = .ok (.ireturn, 1) := by decide +kernel
set_option maxRecDepth 20000 in
theorem ggX8_cellsBarred_X8_failed : GoodIn wsX8_cellsBarred wsX8_failed := goodIn_r _ [7, 8, 12, 13, 14, 15, 16, 17, 18, 19, 20, 21, 22, 23, 24, 25, 26, 27, 28, 29, 30, 31, 32, 33, 34, 35, 36, 37, 38, 39, 40, 41] (by decide +kernel) (by decide +kernel)
set_option maxRecDepth 20000 in
theorem gX8_cellsBarred_X8_failed : GoodIn wsX8_cellsBarred (wsV RX8 103 RX8 yX8_failed wsX8_failed) := goodIn_app (goodIn_of _ (by decide +kernel)) ggX8_cellsBarred_X8_failed
set_option maxRecDepth 20000 in
theorem ggX8_cellsBarred_X8_isBeyond : GoodIn wsX8_cellsBarred wsX8_isBeyond := goodIn_r _ [11] (by decide +kernel) (by decide +kernel)
set_option maxRecDepth 20000 in
theorem gX8_cellsBarred_X8_isBeyond : GoodIn wsX8_cellsBarred (va_wsS RX8 107 yX8_isBeyond wsX8_isBeyond) := goodIn_app (goodIn_of _ (by decide +kernel)) ggX8_cellsBarred_X8_isBeyond
theorem dX8_cellsBarred_0 : decode cX8_cellsBarred 0 = .ok (.aload_n 0, 1) := by decide +kernel
theorem dX8_cellsBarred_1 : decode cX8_cellsBarred 1 = .ok (.getfield 51, 3) := by decide +kernel
theorem dX8_cellsBarred_4 : decode cX8_cellsBarred 4 = .ok (.iload_n 1, 1) := by decide +kernel
theorem dX8_cellsBarred_5 : decode cX8_cellsBarred 5 = .ok (.iaload, 1) := by decide +kernel
theorem dX8_cellsBarred_6 : decode cX8_cellsBarred 6 = .ok (.ifCond .lt 19, 3) := by decide +kernel
theorem dX8_cellsBarred_9 : decode cX8_cellsBarred 9 = .ok (.aload_n 0, 1) := by decide +kernel
theorem dX8_cellsBarred_10 : decode cX8_cellsBarred 10 = .ok (.getfield 54, 3) := by decide +kernel
theorem dX8_cellsBarred_13 : decode cX8_cellsBarred 13 = .ok (.iload_n 1, 1) := by decide +kernel
theorem dX8_cellsBarred_14 : decode cX8_cellsBarred 14 = .ok (.iaload, 1) := by decide +kernel
theorem dX8_cellsBarred_15 : decode cX8_cellsBarred 15 = .ok (.iload_n 2, 1) := by decide +kernel
theorem dX8_cellsBarred_16 : decode cX8_cellsBarred 16 = .ok (.if_icmp .eq 9, 3) := by decide +kernel
theorem dX8_cellsBarred_19 : decode cX8_cellsBarred 19 = .ok (.aload_n 0, 1) := by decide +kernel
theorem dX8_cellsBarred_20 : decode cX8_cellsBarred 20 = .ok (.iconst 2, 1) := by decide +kernel
theorem dX8_cellsBarred_21 : decode cX8_cellsBarred 21 = .ok (.invokevirtual 103, 3) := by decide +kernel
theorem dX8_cellsBarred_24 : decode cX8_cellsBarred 24 = .ok (.ireturn, 1) := by decide +kernel
theorem dX8_cellsBarred_25 : decode cX8_cellsBarred 25 = .ok (.aload_n 0, 1) := by decide +kernel
theorem dX8_cellsBarred_26 : decode cX8_cellsBarred 26 = .ok (.getfield 51, 3) := by decide +kernel
theorem dX8_cellsBarred_29 : decode cX8_cellsBarred 29 = .ok (.iload_n 1, 1) := by decide +kernel
theorem dX8_cellsBarred_30 : decode cX8_cellsBarred 30 = .ok (.iaload, 1) := by decide +kernel
theorem dX8_cellsBarred_31 : decode cX8_cellsBarred 31 = .ok (.ifCond .ge 9, 3) := by decide +kernel
theorem dX8_cellsBarred_34 : decode cX8_cellsBarred 34 = .ok (.aload_n 0, 1) := by decide +kernel
theorem dX8_cellsBarred_35 : decode cX8_cellsBarred 35 = .ok (.iconst 1, 1) := by decide +kernel
theorem dX8_cellsBarred_36 : decode cX8_cellsBarred 36 = .ok (.invokevirtual 103, 3) := by decide +kernel
theorem dX8_cellsBarred_39 : decode cX8_cellsBarred 39 = .ok (.ireturn, 1) := by decide +kernel
theorem dX8_cellsBarred_40 : decode cX8_cellsBarred 40 = .ok (.lload 4, 2) := by decide +kernel
theorem dX8_cellsBarred_42 : decode cX8_cellsBarred 42 = .ok (.lconst 0, 1) := by decide +kernel
theorem dX8_cellsBarred_43 : decode cX8_cellsBarred 43 = .ok (.lcmp, 1) := by decide +kernel
theorem dX8_cellsBarred_44 : decode cX8_cellsBarred 44 = .ok (.ifCond .ge 9, 3) := by decide +kernel
theorem dX8_cellsBarred_47 : decode cX8_cellsBarred 47 = .ok (.aload_n 0, 1) := by decide +kernel
theorem dX8_cellsBarred_48 : decode cX8_cellsBarred 48 = .ok (.iconst 4, 1) := by decide +kernel
theorem dX8_cellsBarred_49 : decode cX8_cellsBarred 49 = .ok (.invokevirtual 103, 3) := by decide +kernel
theorem dX8_cellsBarred_52 : decode cX8_cellsBarred 52 = .ok (.ireturn, 1) := by decide +kernel
theorem dX8_cellsBarred_53 : decode cX8_cellsBarred 53 = .ok (.iload_n 3, 1) := by decide +kernel
theorem dX8_cellsBarred_54 : decode cX8_cellsBarred 54 = .ok (.lload 4, 2) := by decide +kernel
theorem dX8_cellsBarred_56 : decode cX8_cellsBarred 56 = .ok (.aload_n 0, 1) := by decide +kernel
theorem dX8_cellsBarred_57 : decode cX8_cellsBarred 57 = .ok (.getfield 51, 3) := by decide +kernel
theorem dX8_cellsBarred_60 : decode cX8_cellsBarred 60 = .ok (.iload_n 1, 1) := by decide +kernel
theorem dX8_cellsBarred_61 : decode cX8_cellsBarred 61 = .ok (.iaload, 1) := by decide +kernel
theorem dX8_cellsBarred_62 : decode cX8_cellsBarred 62 = .ok (.invokestatic 107, 3) := by decide +kernel
theorem dX8_cellsBarred_65 : decode cX8_cellsBarred 65 = .ok (.ifCond .eq 11, 3) := by decide +kernel
theorem dX8_cellsBarred_68 : decode cX8_cellsBarred 68 = .ok (.aload_n 0, 1) := by decide +kernel
theorem dX8_cellsBarred_69 : decode cX8_cellsBarred 69 = .ok (.iconst 3, 1) := by decide +kernel
theorem dX8_cellsBarred_70 : decode cX8_cellsBarred 70 = .ok (.invokevirtual 103, 3) := by decide +kernel
theorem dX8_cellsBarred_73 : decode cX8_cellsBarred 73 = .ok (.goto 4, 3) := by decide +kernel
theorem dX8_cellsBarred_76 : decode cX8_cellsBarred 76 = .ok (.iconst 0, 1) := by decide +kernel
theorem dX8_cellsBarred_77 : decode cX8_cellsBarred 77 = .ok (.ireturn, 1) := by decide +kernel
set_option maxRecDepth 20000 in
theorem ggX8_river_X8_noSheet : GoodIn wsX8_river wsX8_noSheet := goodIn_r _ [19, 20, 21, 22, 18, 23] (by decide +kernel) (by decide +kernel)
set_option maxRecDepth 20000 in
theorem gX8_river_X8_noSheet : GoodIn wsX8_river (va_wsS RX8 111 yX8_noSheet wsX8_noSheet) := goodIn_app (goodIn_of _ (by decide +kernel)) ggX8_river_X8_noSheet
set_option maxRecDepth 20000 in
theorem ggX8_river_X8_refused : GoodIn wsX8_river wsX8_refused := goodIn_r _ [27, 28, 59, 60, 61, 62, 63, 64, 65, 66, 67, 68, 69, 70, 71, 72, 73, 74, 75, 76, 77, 78, 79, 80, 81, 82, 83, 84, 85, 86, 87, 88] (by decide +kernel) (by decide +kernel)
set_option maxRecDepth 20000 in
theorem gX8_river_X8_refused : GoodIn wsX8_river (wsV RX8 115 RX8 yX8_refused wsX8_refused) := goodIn_app (goodIn_of _ (by decide +kernel)) ggX8_river_X8_refused
set_option maxRecDepth 20000 in
theorem ggX8_river_X8_in : GoodIn wsX8_river wsX8_in := goodIn_r _ [23] (by decide +kernel) (by decide +kernel)
set_option maxRecDepth 20000 in
theorem gX8_river_X8_in : GoodIn wsX8_river (va_wsS RX8 78 yX8_in wsX8_in) := goodIn_app (goodIn_of _ (by decide +kernel)) ggX8_river_X8_in
set_option maxRecDepth 20000 in
theorem ggX8_river_X8_cellsBarred : GoodIn wsX8_river wsX8_cellsBarred := goodIn_r _ [32, 33, 34, 35, 36, 37, 18, 38, 28, 39, 40, 41, 59, 60, 61, 62, 63, 64, 65, 66, 67, 68, 69, 70, 71, 72, 73, 74, 75, 76, 77, 78, 79, 80, 81, 82, 83, 84, 85, 86, 87, 88] (by decide +kernel) (by decide +kernel)
set_option maxRecDepth 20000 in
theorem gX8_river_X8_cellsBarred : GoodIn wsX8_river (wsV RX8 120 RX8 yX8_cellsBarred wsX8_cellsBarred) := goodIn_app (goodIn_of _ (by decide +kernel)) ggX8_river_X8_cellsBarred
set_option maxRecDepth 20000 in
theorem ggX8_river_X8_readsRiver : GoodIn wsX8_river wsX8_readsRiver := goodIn_r _ [45, 2, 5, 3, 46, 47, 48, 18, 49, 50, 51, 52, 53, 54, 21, 22, 23, 55, 56, 57, 58, 8, 10, 12, 14, 59, 60, 61, 62, 63, 64, 65, 66, 67, 68, 69, 70, 71, 72, 73, 74, 75, 76, 77, 78, 79, 80, 81, 82, 83, 84, 85, 86, 87, 88] (by decide +kernel) (by decide +kernel)
set_option maxRecDepth 20000 in
theorem gX8_river_X8_readsRiver : GoodIn wsX8_river (wsV RX8 124 RX8 yX8_readsRiver wsX8_readsRiver) := goodIn_app (goodIn_of _ (by decide +kernel)) ggX8_river_X8_readsRiver
theorem dX8_river_0 : decode cX8_river 0 = .ok (.iload_n 1, 1) := by decide +kernel
theorem dX8_river_1 : decode cX8_river 1 = .ok (.invokestatic 111, 3) := by decide +kernel
theorem dX8_river_4 : decode cX8_river 4 = .ok (.ifCond .eq 9, 3) := by decide +kernel
theorem dX8_river_7 : decode cX8_river 7 = .ok (.aload_n 0, 1) := by decide +kernel
theorem dX8_river_8 : decode cX8_river 8 = .ok (.iconst (-1), 1) := by decide +kernel
theorem dX8_river_9 : decode cX8_river 9 = .ok (.invokevirtual 115, 3) := by decide +kernel
theorem dX8_river_12 : decode cX8_river 12 = .ok (.ireturn, 1) := by decide +kernel
theorem dX8_river_13 : decode cX8_river 13 = .ok (.iload_n 2, 1) := by decide +kernel
theorem dX8_river_14 : decode cX8_river 14 = .ok (.i2l, 1) := by decide +kernel
theorem dX8_river_15 : decode cX8_river 15 = .ok (.lconst 0, 1) := by decide +kernel
theorem dX8_river_16 : decode cX8_river 16 = .ok (.ldc2_w 118, 3) := by decide +kernel
theorem dX8_river_19 : decode cX8_river 19 = .ok (.invokestatic 78, 3) := by decide +kernel
theorem dX8_river_22 : decode cX8_river 22 = .ok (.ifCond .ne 10, 3) := by decide +kernel
theorem dX8_river_25 : decode cX8_river 25 = .ok (.aload_n 0, 1) := by decide +kernel
theorem dX8_river_26 : decode cX8_river 26 = .ok (.bipush (-2), 2) := by decide +kernel
theorem dX8_river_28 : decode cX8_river 28 = .ok (.invokevirtual 115, 3) := by decide +kernel
theorem dX8_river_31 : decode cX8_river 31 = .ok (.ireturn, 1) := by decide +kernel
theorem dX8_river_32 : decode cX8_river 32 = .ok (.aload_n 0, 1) := by decide +kernel
theorem dX8_river_33 : decode cX8_river 33 = .ok (.iload_n 1, 1) := by decide +kernel
theorem dX8_river_34 : decode cX8_river 34 = .ok (.iload_n 2, 1) := by decide +kernel
theorem dX8_river_35 : decode cX8_river 35 = .ok (.iload_n 3, 1) := by decide +kernel
theorem dX8_river_36 : decode cX8_river 36 = .ok (.iload 4, 2) := by decide +kernel
theorem dX8_river_38 : decode cX8_river 38 = .ok (.i2l, 1) := by decide +kernel
theorem dX8_river_39 : decode cX8_river 39 = .ok (.invokevirtual 120, 3) := by decide +kernel
theorem dX8_river_42 : decode cX8_river 42 = .ok (.istore 5, 2) := by decide +kernel
theorem dX8_river_44 : decode cX8_river 44 = .ok (.iload 5, 2) := by decide +kernel
theorem dX8_river_46 : decode cX8_river 46 = .ok (.ifCond .ge 6, 3) := by decide +kernel
theorem dX8_river_49 : decode cX8_river 49 = .ok (.iload 5, 2) := by decide +kernel
theorem dX8_river_51 : decode cX8_river 51 = .ok (.ireturn, 1) := by decide +kernel
theorem dX8_river_52 : decode cX8_river 52 = .ok (.aload_n 0, 1) := by decide +kernel
theorem dX8_river_53 : decode cX8_river 53 = .ok (.bipush 60, 2) := by decide +kernel
theorem dX8_river_55 : decode cX8_river 55 = .ok (.iload_n 1, 1) := by decide +kernel
theorem dX8_river_56 : decode cX8_river 56 = .ok (.imul, 1) := by decide +kernel
theorem dX8_river_57 : decode cX8_river 57 = .ok (.iload_n 3, 1) := by decide +kernel
theorem dX8_river_58 : decode cX8_river 58 = .ok (.iadd, 1) := by decide +kernel
theorem dX8_river_59 : decode cX8_river 59 = .ok (.iload 4, 2) := by decide +kernel
theorem dX8_river_61 : decode cX8_river 61 = .ok (.invokevirtual 124, 3) := by decide +kernel
theorem dX8_river_64 : decode cX8_river 64 = .ok (.ifCond .ne 15, 3) := by decide +kernel
theorem dX8_river_67 : decode cX8_river 67 = .ok (.aload_n 0, 1) := by decide +kernel
theorem dX8_river_68 : decode cX8_river 68 = .ok (.bipush (-100), 2) := by decide +kernel
theorem dX8_river_70 : decode cX8_river 70 = .ok (.aload_n 0, 1) := by decide +kernel
theorem dX8_river_71 : decode cX8_river 71 = .ok (.getfield 82, 3) := by decide +kernel
theorem dX8_river_74 : decode cX8_river 74 = .ok (.isub, 1) := by decide +kernel
theorem dX8_river_75 : decode cX8_river 75 = .ok (.invokevirtual 115, 3) := by decide +kernel
theorem dX8_river_78 : decode cX8_river 78 = .ok (.ireturn, 1) := by decide +kernel
theorem dX8_river_79 : decode cX8_river 79 = .ok (.aload_n 0, 1) := by decide +kernel
theorem dX8_river_80 : decode cX8_river 80 = .ok (.aload_n 0, 1) := by decide +kernel
theorem dX8_river_81 : decode cX8_river 81 = .ok (.getfield 96, 3) := by decide +kernel
theorem dX8_river_84 : decode cX8_river 84 = .ok (.putfield 127, 3) := by decide +kernel
theorem dX8_river_87 : decode cX8_river 87 = .ok (.aload_n 0, 1) := by decide +kernel
theorem dX8_river_88 : decode cX8_river 88 = .ok (.aload_n 0, 1) := by decide +kernel
theorem dX8_river_89 : decode cX8_river 89 = .ok (.getfield 89, 3) := by decide +kernel
theorem dX8_river_92 : decode cX8_river 92 = .ok (.putfield 75, 3) := by decide +kernel
theorem dX8_river_95 : decode cX8_river 95 = .ok (.iconst 0, 1) := by decide +kernel
theorem dX8_river_96 : decode cX8_river 96 = .ok (.istore 6, 2) := by decide +kernel
theorem dX8_river_98 : decode cX8_river 98 = .ok (.iload 6, 2) := by decide +kernel
theorem dX8_river_100 : decode cX8_river 100 = .ok (.aload_n 0, 1) := by decide +kernel
theorem dX8_river_101 : decode cX8_river 101 = .ok (.getfield 75, 3) := by decide +kernel
theorem dX8_river_104 : decode cX8_river 104 = .ok (.if_icmp .ge 65, 3) := by decide +kernel
theorem dX8_river_107 : decode cX8_river 107 = .ok (.aload_n 0, 1) := by decide +kernel
theorem dX8_river_108 : decode cX8_river 108 = .ok (.getfield 7, 3) := by decide +kernel
theorem dX8_river_111 : decode cX8_river 111 = .ok (.iload 6, 2) := by decide +kernel
theorem dX8_river_113 : decode cX8_river 113 = .ok (.aload_n 0, 1) := by decide +kernel
theorem dX8_river_114 : decode cX8_river 114 = .ok (.getfield 22, 3) := by decide +kernel
theorem dX8_river_117 : decode cX8_river 117 = .ok (.iload 6, 2) := by decide +kernel
theorem dX8_river_119 : decode cX8_river 119 = .ok (.iaload, 1) := by decide +kernel
theorem dX8_river_120 : decode cX8_river 120 = .ok (.iastore, 1) := by decide +kernel
theorem dX8_river_121 : decode cX8_river 121 = .ok (.aload_n 0, 1) := by decide +kernel
theorem dX8_river_122 : decode cX8_river 122 = .ok (.getfield 13, 3) := by decide +kernel
theorem dX8_river_125 : decode cX8_river 125 = .ok (.iload 6, 2) := by decide +kernel
theorem dX8_river_127 : decode cX8_river 127 = .ok (.aload_n 0, 1) := by decide +kernel
theorem dX8_river_128 : decode cX8_river 128 = .ok (.getfield 25, 3) := by decide +kernel
theorem dX8_river_131 : decode cX8_river 131 = .ok (.iload 6, 2) := by decide +kernel
theorem dX8_river_133 : decode cX8_river 133 = .ok (.iaload, 1) := by decide +kernel
theorem dX8_river_134 : decode cX8_river 134 = .ok (.iastore, 1) := by decide +kernel
theorem dX8_river_135 : decode cX8_river 135 = .ok (.aload_n 0, 1) := by decide +kernel
theorem dX8_river_136 : decode cX8_river 136 = .ok (.getfield 16, 3) := by decide +kernel
theorem dX8_river_139 : decode cX8_river 139 = .ok (.iload 6, 2) := by decide +kernel
theorem dX8_river_141 : decode cX8_river 141 = .ok (.aload_n 0, 1) := by decide +kernel
theorem dX8_river_142 : decode cX8_river 142 = .ok (.getfield 28, 3) := by decide +kernel
theorem dX8_river_145 : decode cX8_river 145 = .ok (.iload 6, 2) := by decide +kernel
theorem dX8_river_147 : decode cX8_river 147 = .ok (.iaload, 1) := by decide +kernel
theorem dX8_river_148 : decode cX8_river 148 = .ok (.iastore, 1) := by decide +kernel
theorem dX8_river_149 : decode cX8_river 149 = .ok (.aload_n 0, 1) := by decide +kernel
theorem dX8_river_150 : decode cX8_river 150 = .ok (.getfield 19, 3) := by decide +kernel
theorem dX8_river_153 : decode cX8_river 153 = .ok (.iload 6, 2) := by decide +kernel
theorem dX8_river_155 : decode cX8_river 155 = .ok (.aload_n 0, 1) := by decide +kernel
theorem dX8_river_156 : decode cX8_river 156 = .ok (.getfield 31, 3) := by decide +kernel
theorem dX8_river_159 : decode cX8_river 159 = .ok (.iload 6, 2) := by decide +kernel
theorem dX8_river_161 : decode cX8_river 161 = .ok (.iaload, 1) := by decide +kernel
theorem dX8_river_162 : decode cX8_river 162 = .ok (.iastore, 1) := by decide +kernel
theorem dX8_river_163 : decode cX8_river 163 = .ok (.iinc 6 1, 3) := by decide +kernel
theorem dX8_river_166 : decode cX8_river 166 = .ok (.goto (-68), 3) := by decide +kernel
theorem dX8_river_169 : decode cX8_river 169 = .ok (.aload_n 0, 1) := by decide +kernel
theorem dX8_river_170 : decode cX8_river 170 = .ok (.iconst 0, 1) := by decide +kernel
theorem dX8_river_171 : decode cX8_river 171 = .ok (.putfield 130, 3) := by decide +kernel
theorem dX8_river_174 : decode cX8_river 174 = .ok (.aload_n 0, 1) := by decide +kernel
theorem dX8_river_175 : decode cX8_river 175 = .ok (.aload_n 0, 1) := by decide +kernel
theorem dX8_river_176 : decode cX8_river 176 = .ok (.getfield 75, 3) := by decide +kernel
theorem dX8_river_179 : decode cX8_river 179 = .ok (.invokevirtual 115, 3) := by decide +kernel
theorem dX8_river_182 : decode cX8_river 182 = .ok (.ireturn, 1) := by decide +kernel
theorem dX8_holdsOf_0 : decode cX8_holdsOf 0 = .ok (.aload_n 0, 1) := by decide +kernel
theorem dX8_holdsOf_1 : decode cX8_holdsOf 1 = .ok (.getfield 13, 3) := by decide +kernel
theorem dX8_holdsOf_4 : decode cX8_holdsOf 4 = .ok (.iload_n 1, 1) := by decide +kernel
theorem dX8_holdsOf_5 : decode cX8_holdsOf 5 = .ok (.iaload, 1) := by decide +kernel
theorem dX8_holdsOf_6 : decode cX8_holdsOf 6 = .ok (.aload_n 0, 1) := by decide +kernel
theorem dX8_holdsOf_7 : decode cX8_holdsOf 7 = .ok (.getfield 7, 3) := by decide +kernel
theorem dX8_holdsOf_10 : decode cX8_holdsOf 10 = .ok (.iload_n 1, 1) := by decide +kernel
theorem dX8_holdsOf_11 : decode cX8_holdsOf 11 = .ok (.iaload, 1) := by decide +kernel
theorem dX8_holdsOf_12 : decode cX8_holdsOf 12 = .ok (.ifCond .le 7, 3) := by decide +kernel
theorem dX8_holdsOf_15 : decode cX8_holdsOf 15 = .ok (.iconst 1, 1) := by decide +kernel
theorem dX8_holdsOf_16 : decode cX8_holdsOf 16 = .ok (.goto 4, 3) := by decide +kernel
theorem dX8_holdsOf_19 : decode cX8_holdsOf 19 = .ok (.iconst 0, 1) := by decide +kernel
theorem dX8_holdsOf_20 : decode cX8_holdsOf 20 = .ok (.iadd, 1) := by decide +kernel
theorem dX8_holdsOf_21 : decode cX8_holdsOf 21 = .ok (.istore_n 2, 1) := by decide +kernel
theorem dX8_holdsOf_22 : decode cX8_holdsOf 22 = .ok (.aload_n 0, 1) := by decide +kernel
theorem dX8_holdsOf_23 : decode cX8_holdsOf 23 = .ok (.getfield 7, 3) := by decide +kernel
theorem dX8_holdsOf_26 : decode cX8_holdsOf 26 = .ok (.iload_n 1, 1) := by decide +kernel
theorem dX8_holdsOf_27 : decode cX8_holdsOf 27 = .ok (.iaload, 1) := by decide +kernel
theorem dX8_holdsOf_28 : decode cX8_holdsOf 28 = .ok (.iconst 2, 1) := by decide +kernel
theorem dX8_holdsOf_29 : decode cX8_holdsOf 29 = .ok (.if_icmp .ne 9, 3) := by decide +kernel
theorem dX8_holdsOf_32 : decode cX8_holdsOf 32 = .ok (.iconst 2, 1) := by decide +kernel
theorem dX8_holdsOf_33 : decode cX8_holdsOf 33 = .ok (.iload_n 2, 1) := by decide +kernel
theorem dX8_holdsOf_34 : decode cX8_holdsOf 34 = .ok (.imul, 1) := by decide +kernel
theorem dX8_holdsOf_35 : decode cX8_holdsOf 35 = .ok (.goto 4, 3) := by decide +kernel
theorem dX8_holdsOf_38 : decode cX8_holdsOf 38 = .ok (.iload_n 2, 1) := by decide +kernel
theorem dX8_holdsOf_39 : decode cX8_holdsOf 39 = .ok (.istore_n 2, 1) := by decide +kernel
theorem dX8_holdsOf_40 : decode cX8_holdsOf 40 = .ok (.aload_n 0, 1) := by decide +kernel
theorem dX8_holdsOf_41 : decode cX8_holdsOf 41 = .ok (.getfield 16, 3) := by decide +kernel
theorem dX8_holdsOf_44 : decode cX8_holdsOf 44 = .ok (.iload_n 1, 1) := by decide +kernel
theorem dX8_holdsOf_45 : decode cX8_holdsOf 45 = .ok (.iaload, 1) := by decide +kernel
theorem dX8_holdsOf_46 : decode cX8_holdsOf 46 = .ok (.iconst 1, 1) := by decide +kernel
theorem dX8_holdsOf_47 : decode cX8_holdsOf 47 = .ok (.if_icmp .ne 7, 3) := by decide +kernel
theorem dX8_holdsOf_50 : decode cX8_holdsOf 50 = .ok (.iconst 0, 1) := by decide +kernel
theorem dX8_holdsOf_51 : decode cX8_holdsOf 51 = .ok (.goto 15, 3) := by decide +kernel
theorem dX8_holdsOf_54 : decode cX8_holdsOf 54 = .ok (.iload_n 2, 1) := by decide +kernel
theorem dX8_holdsOf_55 : decode cX8_holdsOf 55 = .ok (.bipush 9, 2) := by decide +kernel
theorem dX8_holdsOf_57 : decode cX8_holdsOf 57 = .ok (.if_icmp .le 8, 3) := by decide +kernel
theorem dX8_holdsOf_60 : decode cX8_holdsOf 60 = .ok (.bipush 9, 2) := by decide +kernel
theorem dX8_holdsOf_62 : decode cX8_holdsOf 62 = .ok (.goto 4, 3) := by decide +kernel
theorem dX8_holdsOf_65 : decode cX8_holdsOf 65 = .ok (.iload_n 2, 1) := by decide +kernel
theorem dX8_holdsOf_66 : decode cX8_holdsOf 66 = .ok (.ireturn, 1) := by decide +kernel
set_option maxRecDepth 20000 in
theorem ggX8_ofCell_X8_noPlace : GoodIn wsX8_ofCell wsX8_noPlace := goodIn_r _ [9, 10, 11, 12, 8, 13, 18, 19, 20, 21, 22, 23, 24, 25, 26, 27, 28, 29, 30, 31, 32, 33, 34, 35, 36, 37, 38, 39, 40, 41, 42, 43, 44, 45, 46, 47] (by decide +kernel) (by decide +kernel)
set_option maxRecDepth 20000 in
theorem gX8_ofCell_X8_noPlace : GoodIn wsX8_ofCell (wsV RX8 133 RX8 yX8_noPlace wsX8_noPlace) := goodIn_app (goodIn_of _ (by decide +kernel)) ggX8_ofCell_X8_noPlace
set_option maxRecDepth 20000 in
theorem ggX8_ofCell_X8_holdsOf : GoodIn wsX8_ofCell wsX8_holdsOf := goodIn_r _ [17, 2, 1, 3, 18, 19, 20, 21, 22, 23, 24, 25, 26, 27, 28, 29, 30, 31, 32, 33, 34, 35, 36, 37, 38, 39, 40, 41, 42, 43, 44, 45, 46, 47] (by decide +kernel) (by decide +kernel)
set_option maxRecDepth 20000 in
theorem gX8_ofCell_X8_holdsOf : GoodIn wsX8_ofCell (wsV RX8 136 RX8 yX8_holdsOf wsX8_holdsOf) := goodIn_app (goodIn_of _ (by decide +kernel)) ggX8_ofCell_X8_holdsOf
theorem dX8_ofCell_0 : decode cX8_ofCell 0 = .ok (.aload_n 0, 1) := by decide +kernel
theorem dX8_ofCell_1 : decode cX8_ofCell 1 = .ok (.iload_n 1, 1) := by decide +kernel
theorem dX8_ofCell_2 : decode cX8_ofCell 2 = .ok (.invokevirtual 133, 3) := by decide +kernel
theorem dX8_ofCell_5 : decode cX8_ofCell 5 = .ok (.ifCond .eq 5, 3) := by decide +kernel
theorem dX8_ofCell_8 : decode cX8_ofCell 8 = .ok (.iconst (-1), 1) := by decide +kernel
theorem dX8_ofCell_9 : decode cX8_ofCell 9 = .ok (.ireturn, 1) := by decide +kernel
theorem dX8_ofCell_10 : decode cX8_ofCell 10 = .ok (.iload_n 2, 1) := by decide +kernel
theorem dX8_ofCell_11 : decode cX8_ofCell 11 = .ok (.tableswitch 67 0 4 #[33, 40, 47, 53, 60], 33) := by decide +kernel
theorem dX8_ofCell_44 : decode cX8_ofCell 44 = .ok (.aload_n 0, 1) := by decide +kernel
theorem dX8_ofCell_45 : decode cX8_ofCell 45 = .ok (.getfield 7, 3) := by decide +kernel
theorem dX8_ofCell_48 : decode cX8_ofCell 48 = .ok (.iload_n 1, 1) := by decide +kernel
theorem dX8_ofCell_49 : decode cX8_ofCell 49 = .ok (.iaload, 1) := by decide +kernel
theorem dX8_ofCell_50 : decode cX8_ofCell 50 = .ok (.ireturn, 1) := by decide +kernel
theorem dX8_ofCell_51 : decode cX8_ofCell 51 = .ok (.aload_n 0, 1) := by decide +kernel
theorem dX8_ofCell_52 : decode cX8_ofCell 52 = .ok (.getfield 13, 3) := by decide +kernel
theorem dX8_ofCell_55 : decode cX8_ofCell 55 = .ok (.iload_n 1, 1) := by decide +kernel
theorem dX8_ofCell_56 : decode cX8_ofCell 56 = .ok (.iaload, 1) := by decide +kernel
theorem dX8_ofCell_57 : decode cX8_ofCell 57 = .ok (.ireturn, 1) := by decide +kernel
theorem dX8_ofCell_58 : decode cX8_ofCell 58 = .ok (.aload_n 0, 1) := by decide +kernel
theorem dX8_ofCell_59 : decode cX8_ofCell 59 = .ok (.iload_n 1, 1) := by decide +kernel
theorem dX8_ofCell_60 : decode cX8_ofCell 60 = .ok (.invokevirtual 136, 3) := by decide +kernel
theorem dX8_ofCell_63 : decode cX8_ofCell 63 = .ok (.ireturn, 1) := by decide +kernel
theorem dX8_ofCell_64 : decode cX8_ofCell 64 = .ok (.aload_n 0, 1) := by decide +kernel
theorem dX8_ofCell_65 : decode cX8_ofCell 65 = .ok (.getfield 16, 3) := by decide +kernel
theorem dX8_ofCell_68 : decode cX8_ofCell 68 = .ok (.iload_n 1, 1) := by decide +kernel
theorem dX8_ofCell_69 : decode cX8_ofCell 69 = .ok (.iaload, 1) := by decide +kernel
theorem dX8_ofCell_70 : decode cX8_ofCell 70 = .ok (.ireturn, 1) := by decide +kernel
theorem dX8_ofCell_71 : decode cX8_ofCell 71 = .ok (.aload_n 0, 1) := by decide +kernel
theorem dX8_ofCell_72 : decode cX8_ofCell 72 = .ok (.getfield 19, 3) := by decide +kernel
theorem dX8_ofCell_75 : decode cX8_ofCell 75 = .ok (.iload_n 1, 1) := by decide +kernel
theorem dX8_ofCell_76 : decode cX8_ofCell 76 = .ok (.iaload, 1) := by decide +kernel
theorem dX8_ofCell_77 : decode cX8_ofCell 77 = .ok (.ireturn, 1) := by decide +kernel
theorem dX8_ofCell_78 : decode cX8_ofCell 78 = .ok (.bipush (-2), 2) := by decide +kernel
theorem dX8_ofCell_80 : decode cX8_ofCell 80 = .ok (.ireturn, 1) := by decide +kernel
set_option maxRecDepth 20000 in
theorem ggX8_pace_X8_in : GoodIn wsX8_pace wsX8_in := goodIn_r _ [7] (by decide +kernel) (by decide +kernel)
set_option maxRecDepth 20000 in
theorem gX8_pace_X8_in : GoodIn wsX8_pace (va_wsS RX8 78 yX8_in wsX8_in) := goodIn_app (goodIn_of _ (by decide +kernel)) ggX8_pace_X8_in
theorem dX8_pace_0 : decode cX8_pace 0 = .ok (.iload_n 1, 1) := by decide +kernel
theorem dX8_pace_1 : decode cX8_pace 1 = .ok (.i2l, 1) := by decide +kernel
theorem dX8_pace_2 : decode cX8_pace 2 = .ok (.lconst 0, 1) := by decide +kernel
theorem dX8_pace_3 : decode cX8_pace 3 = .ok (.ldc2_w 139, 3) := by decide +kernel
theorem dX8_pace_6 : decode cX8_pace 6 = .ok (.invokestatic 78, 3) := by decide +kernel
theorem dX8_pace_9 : decode cX8_pace 9 = .ok (.ifCond .ne 6, 3) := by decide +kernel
theorem dX8_pace_12 : decode cX8_pace 12 = .ok (.bipush (-2), 2) := by decide +kernel
theorem dX8_pace_14 : decode cX8_pace 14 = .ok (.ireturn, 1) := by decide +kernel
theorem dX8_pace_15 : decode cX8_pace 15 = .ok (.aload_n 0, 1) := by decide +kernel
theorem dX8_pace_16 : decode cX8_pace 16 = .ok (.getfield 75, 3) := by decide +kernel
theorem dX8_pace_19 : decode cX8_pace 19 = .ok (.ifCond .ne 6, 3) := by decide +kernel
theorem dX8_pace_22 : decode cX8_pace 22 = .ok (.bipush (-3), 2) := by decide +kernel
theorem dX8_pace_24 : decode cX8_pace 24 = .ok (.ireturn, 1) := by decide +kernel
theorem dX8_pace_25 : decode cX8_pace 25 = .ok (.aload_n 0, 1) := by decide +kernel
theorem dX8_pace_26 : decode cX8_pace 26 = .ok (.getfield 127, 3) := by decide +kernel
theorem dX8_pace_29 : decode cX8_pace 29 = .ok (.istore_n 2, 1) := by decide +kernel
theorem dX8_pace_30 : decode cX8_pace 30 = .ok (.aload_n 0, 1) := by decide +kernel
theorem dX8_pace_31 : decode cX8_pace 31 = .ok (.iload_n 1, 1) := by decide +kernel
theorem dX8_pace_32 : decode cX8_pace 32 = .ok (.putfield 127, 3) := by decide +kernel
theorem dX8_pace_35 : decode cX8_pace 35 = .ok (.iload_n 2, 1) := by decide +kernel
theorem dX8_pace_36 : decode cX8_pace 36 = .ok (.ireturn, 1) := by decide +kernel
set_option maxRecDepth 20000 in
theorem ggX8_bridge_X8_noPlace : GoodIn wsX8_bridge wsX8_noPlace := goodIn_r _ [6, 7, 8, 9, 5, 10, 11, 12, 13, 14, 15, 16, 17, 18, 19, 20, 21, 22, 23, 24, 25, 26, 27, 28, 29, 30, 31, 32, 33, 34, 35, 36, 37, 38, 39, 40] (by decide +kernel) (by decide +kernel)
set_option maxRecDepth 20000 in
theorem gX8_bridge_X8_noPlace : GoodIn wsX8_bridge (wsV RX8 133 RX8 yX8_noPlace wsX8_noPlace) := goodIn_app (goodIn_of _ (by decide +kernel)) ggX8_bridge_X8_noPlace
theorem dX8_bridge_0 : decode cX8_bridge 0 = .ok (.aload_n 0, 1) := by decide +kernel
theorem dX8_bridge_1 : decode cX8_bridge 1 = .ok (.iload_n 1, 1) := by decide +kernel
theorem dX8_bridge_2 : decode cX8_bridge 2 = .ok (.invokevirtual 133, 3) := by decide +kernel
theorem dX8_bridge_5 : decode cX8_bridge 5 = .ok (.ifCond .eq 5, 3) := by decide +kernel
theorem dX8_bridge_8 : decode cX8_bridge 8 = .ok (.iconst (-1), 1) := by decide +kernel
theorem dX8_bridge_9 : decode cX8_bridge 9 = .ok (.ireturn, 1) := by decide +kernel
theorem dX8_bridge_10 : decode cX8_bridge 10 = .ok (.aload_n 0, 1) := by decide +kernel
theorem dX8_bridge_11 : decode cX8_bridge 11 = .ok (.getfield 19, 3) := by decide +kernel
theorem dX8_bridge_14 : decode cX8_bridge 14 = .ok (.iload_n 1, 1) := by decide +kernel
theorem dX8_bridge_15 : decode cX8_bridge 15 = .ok (.iaload, 1) := by decide +kernel
theorem dX8_bridge_16 : decode cX8_bridge 16 = .ok (.istore_n 3, 1) := by decide +kernel
theorem dX8_bridge_17 : decode cX8_bridge 17 = .ok (.aload_n 0, 1) := by decide +kernel
theorem dX8_bridge_18 : decode cX8_bridge 18 = .ok (.getfield 19, 3) := by decide +kernel
theorem dX8_bridge_21 : decode cX8_bridge 21 = .ok (.iload_n 1, 1) := by decide +kernel
theorem dX8_bridge_22 : decode cX8_bridge 22 = .ok (.iload_n 2, 1) := by decide +kernel
theorem dX8_bridge_23 : decode cX8_bridge 23 = .ok (.ifCond .eq 7, 3) := by decide +kernel
theorem dX8_bridge_26 : decode cX8_bridge 26 = .ok (.iconst 1, 1) := by decide +kernel
theorem dX8_bridge_27 : decode cX8_bridge 27 = .ok (.goto 4, 3) := by decide +kernel
theorem dX8_bridge_30 : decode cX8_bridge 30 = .ok (.iconst 0, 1) := by decide +kernel
theorem dX8_bridge_31 : decode cX8_bridge 31 = .ok (.iastore, 1) := by decide +kernel
theorem dX8_bridge_32 : decode cX8_bridge 32 = .ok (.iload_n 3, 1) := by decide +kernel
theorem dX8_bridge_33 : decode cX8_bridge 33 = .ok (.aload_n 0, 1) := by decide +kernel
theorem dX8_bridge_34 : decode cX8_bridge 34 = .ok (.getfield 19, 3) := by decide +kernel
theorem dX8_bridge_37 : decode cX8_bridge 37 = .ok (.iload_n 1, 1) := by decide +kernel
theorem dX8_bridge_38 : decode cX8_bridge 38 = .ok (.iaload, 1) := by decide +kernel
theorem dX8_bridge_39 : decode cX8_bridge 39 = .ok (.if_icmp .ne 7, 3) := by decide +kernel
theorem dX8_bridge_42 : decode cX8_bridge 42 = .ok (.iconst 0, 1) := by decide +kernel
theorem dX8_bridge_43 : decode cX8_bridge 43 = .ok (.goto 4, 3) := by decide +kernel
theorem dX8_bridge_46 : decode cX8_bridge 46 = .ok (.iconst 1, 1) := by decide +kernel
theorem dX8_bridge_47 : decode cX8_bridge 47 = .ok (.ireturn, 1) := by decide +kernel
theorem dX8_paceBy_0 : decode cX8_paceBy 0 = .ok (.iload_n 0, 1) := by decide +kernel
theorem dX8_paceBy_1 : decode cX8_paceBy 1 = .ok (.tableswitch 62 0 2 #[27, 40, 52], 27) := by decide +kernel
theorem dX8_paceBy_28 : decode cX8_paceBy 28 = .ok (.iload_n 1, 1) := by decide +kernel
theorem dX8_paceBy_29 : decode cX8_paceBy 29 = .ok (.iconst 3, 1) := by decide +kernel
theorem dX8_paceBy_30 : decode cX8_paceBy 30 = .ok (.if_icmp .ge 9, 3) := by decide +kernel
theorem dX8_paceBy_33 : decode cX8_paceBy 33 = .ok (.iload_n 1, 1) := by decide +kernel
theorem dX8_paceBy_34 : decode cX8_paceBy 34 = .ok (.iconst 1, 1) := by decide +kernel
theorem dX8_paceBy_35 : decode cX8_paceBy 35 = .ok (.iadd, 1) := by decide +kernel
theorem dX8_paceBy_36 : decode cX8_paceBy 36 = .ok (.goto 4, 3) := by decide +kernel
theorem dX8_paceBy_39 : decode cX8_paceBy 39 = .ok (.iconst 3, 1) := by decide +kernel
theorem dX8_paceBy_40 : decode cX8_paceBy 40 = .ok (.ireturn, 1) := by decide +kernel
theorem dX8_paceBy_41 : decode cX8_paceBy 41 = .ok (.iload_n 1, 1) := by decide +kernel
theorem dX8_paceBy_42 : decode cX8_paceBy 42 = .ok (.ifCond .le 9, 3) := by decide +kernel
theorem dX8_paceBy_45 : decode cX8_paceBy 45 = .ok (.iload_n 1, 1) := by decide +kernel
theorem dX8_paceBy_46 : decode cX8_paceBy 46 = .ok (.iconst 1, 1) := by decide +kernel
theorem dX8_paceBy_47 : decode cX8_paceBy 47 = .ok (.isub, 1) := by decide +kernel
theorem dX8_paceBy_48 : decode cX8_paceBy 48 = .ok (.goto 4, 3) := by decide +kernel
theorem dX8_paceBy_51 : decode cX8_paceBy 51 = .ok (.iconst 0, 1) := by decide +kernel
theorem dX8_paceBy_52 : decode cX8_paceBy 52 = .ok (.ireturn, 1) := by decide +kernel
theorem dX8_paceBy_53 : decode cX8_paceBy 53 = .ok (.iload_n 1, 1) := by decide +kernel
theorem dX8_paceBy_54 : decode cX8_paceBy 54 = .ok (.ifCond .le 7, 3) := by decide +kernel
theorem dX8_paceBy_57 : decode cX8_paceBy 57 = .ok (.iload_n 1, 1) := by decide +kernel
theorem dX8_paceBy_58 : decode cX8_paceBy 58 = .ok (.goto 4, 3) := by decide +kernel
theorem dX8_paceBy_61 : decode cX8_paceBy 61 = .ok (.iconst 1, 1) := by decide +kernel
theorem dX8_paceBy_62 : decode cX8_paceBy 62 = .ok (.ireturn, 1) := by decide +kernel
theorem dX8_paceBy_63 : decode cX8_paceBy 63 = .ok (.iconst 1, 1) := by decide +kernel
theorem dX8_paceBy_64 : decode cX8_paceBy 64 = .ok (.ireturn, 1) := by decide +kernel
theorem dX8_cellBy_0 : decode cX8_cellBy 0 = .ok (.iload_n 1, 1) := by decide +kernel
theorem dX8_cellBy_1 : decode cX8_cellBy 1 = .ok (.iload_n 2, 1) := by decide +kernel
theorem dX8_cellBy_2 : decode cX8_cellBy 2 = .ok (.iadd, 1) := by decide +kernel
theorem dX8_cellBy_3 : decode cX8_cellBy 3 = .ok (.aload_n 0, 1) := by decide +kernel
theorem dX8_cellBy_4 : decode cX8_cellBy 4 = .ok (.getfield 75, 3) := by decide +kernel
theorem dX8_cellBy_7 : decode cX8_cellBy 7 = .ok (.if_icmp .ge 9, 3) := by decide +kernel
theorem dX8_cellBy_10 : decode cX8_cellBy 10 = .ok (.iload_n 1, 1) := by decide +kernel
theorem dX8_cellBy_11 : decode cX8_cellBy 11 = .ok (.iload_n 2, 1) := by decide +kernel
theorem dX8_cellBy_12 : decode cX8_cellBy 12 = .ok (.iadd, 1) := by decide +kernel
theorem dX8_cellBy_13 : decode cX8_cellBy 13 = .ok (.goto 9, 3) := by decide +kernel
theorem dX8_cellBy_16 : decode cX8_cellBy 16 = .ok (.aload_n 0, 1) := by decide +kernel
theorem dX8_cellBy_17 : decode cX8_cellBy 17 = .ok (.getfield 75, 3) := by decide +kernel
theorem dX8_cellBy_20 : decode cX8_cellBy 20 = .ok (.iconst 1, 1) := by decide +kernel
theorem dX8_cellBy_21 : decode cX8_cellBy 21 = .ok (.isub, 1) := by decide +kernel
theorem dX8_cellBy_22 : decode cX8_cellBy 22 = .ok (.ireturn, 1) := by decide +kernel
set_option maxRecDepth 20000 in
theorem ggX8_canAct_X8_paceBy : GoodIn wsX8_canAct wsX8_paceBy := goodIn_r _ [7] (by decide +kernel) (by decide +kernel)
set_option maxRecDepth 20000 in
theorem gX8_canAct_X8_paceBy : GoodIn wsX8_canAct (va_wsS RX8 141 yX8_paceBy wsX8_paceBy) := goodIn_app (goodIn_of _ (by decide +kernel)) ggX8_canAct_X8_paceBy
set_option maxRecDepth 20000 in
theorem ggX8_canAct_X8_cellBy : GoodIn wsX8_canAct wsX8_cellBy := goodIn_r _ [11, 1, 12, 13, 14, 15, 16, 17, 18, 19, 20, 21, 22, 23, 24, 25, 26, 27, 28, 29, 30, 31, 32, 33, 34, 35, 36, 37, 38, 39, 40, 41] (by decide +kernel) (by decide +kernel)
set_option maxRecDepth 20000 in
theorem gX8_canAct_X8_cellBy : GoodIn wsX8_canAct (wsV RX8 144 RX8 yX8_cellBy wsX8_cellBy) := goodIn_app (goodIn_of _ (by decide +kernel)) ggX8_canAct_X8_cellBy
theorem dX8_canAct_0 : decode cX8_canAct 0 = .ok (.iload_n 2, 1) := by decide +kernel
theorem dX8_canAct_1 : decode cX8_canAct 1 = .ok (.aload_n 0, 1) := by decide +kernel
theorem dX8_canAct_2 : decode cX8_canAct 2 = .ok (.getfield 75, 3) := by decide +kernel
theorem dX8_canAct_5 : decode cX8_canAct 5 = .ok (.iconst 1, 1) := by decide +kernel
theorem dX8_canAct_6 : decode cX8_canAct 6 = .ok (.isub, 1) := by decide +kernel
theorem dX8_canAct_7 : decode cX8_canAct 7 = .ok (.if_icmp .ge 23, 3) := by decide +kernel
theorem dX8_canAct_10 : decode cX8_canAct 10 = .ok (.iload_n 1, 1) := by decide +kernel
theorem dX8_canAct_11 : decode cX8_canAct 11 = .ok (.iconst 2, 1) := by decide +kernel
theorem dX8_canAct_12 : decode cX8_canAct 12 = .ok (.irem, 1) := by decide +kernel
theorem dX8_canAct_13 : decode cX8_canAct 13 = .ok (.iconst 1, 1) := by decide +kernel
theorem dX8_canAct_14 : decode cX8_canAct 14 = .ok (.if_icmp .eq 12, 3) := by decide +kernel
theorem dX8_canAct_17 : decode cX8_canAct 17 = .ok (.aload_n 0, 1) := by decide +kernel
theorem dX8_canAct_18 : decode cX8_canAct 18 = .ok (.getfield 16, 3) := by decide +kernel
theorem dX8_canAct_21 : decode cX8_canAct 21 = .ok (.iload_n 2, 1) := by decide +kernel
theorem dX8_canAct_22 : decode cX8_canAct 22 = .ok (.iaload, 1) := by decide +kernel
theorem dX8_canAct_23 : decode cX8_canAct 23 = .ok (.ifCond .ne 7, 3) := by decide +kernel
theorem dX8_canAct_26 : decode cX8_canAct 26 = .ok (.iconst 1, 1) := by decide +kernel
theorem dX8_canAct_27 : decode cX8_canAct 27 = .ok (.goto 4, 3) := by decide +kernel
theorem dX8_canAct_30 : decode cX8_canAct 30 = .ok (.iconst 0, 1) := by decide +kernel
theorem dX8_canAct_31 : decode cX8_canAct 31 = .ok (.istore 4, 2) := by decide +kernel
theorem dX8_canAct_33 : decode cX8_canAct 33 = .ok (.iload_n 1, 1) := by decide +kernel
theorem dX8_canAct_34 : decode cX8_canAct 34 = .ok (.iload_n 3, 1) := by decide +kernel
theorem dX8_canAct_35 : decode cX8_canAct 35 = .ok (.invokestatic 141, 3) := by decide +kernel
theorem dX8_canAct_38 : decode cX8_canAct 38 = .ok (.istore 5, 2) := by decide +kernel
theorem dX8_canAct_40 : decode cX8_canAct 40 = .ok (.iload_n 2, 1) := by decide +kernel
theorem dX8_canAct_41 : decode cX8_canAct 41 = .ok (.iconst 1, 1) := by decide +kernel
theorem dX8_canAct_42 : decode cX8_canAct 42 = .ok (.iadd, 1) := by decide +kernel
theorem dX8_canAct_43 : decode cX8_canAct 43 = .ok (.istore 6, 2) := by decide +kernel
theorem dX8_canAct_45 : decode cX8_canAct 45 = .ok (.iload 4, 2) := by decide +kernel
theorem dX8_canAct_47 : decode cX8_canAct 47 = .ok (.ifCond .eq 44, 3) := by decide +kernel
theorem dX8_canAct_50 : decode cX8_canAct 50 = .ok (.iload 6, 2) := by decide +kernel
theorem dX8_canAct_52 : decode cX8_canAct 52 = .ok (.aload_n 0, 1) := by decide +kernel
theorem dX8_canAct_53 : decode cX8_canAct 53 = .ok (.iload_n 2, 1) := by decide +kernel
theorem dX8_canAct_54 : decode cX8_canAct 54 = .ok (.iload 5, 2) := by decide +kernel
theorem dX8_canAct_56 : decode cX8_canAct 56 = .ok (.invokevirtual 144, 3) := by decide +kernel
theorem dX8_canAct_59 : decode cX8_canAct 59 = .ok (.if_icmp .gt 32, 3) := by decide +kernel
theorem dX8_canAct_62 : decode cX8_canAct 62 = .ok (.iload 5, 2) := by decide +kernel
theorem dX8_canAct_64 : decode cX8_canAct 64 = .ok (.iconst 2, 1) := by decide +kernel
theorem dX8_canAct_65 : decode cX8_canAct 65 = .ok (.if_icmp .lt 13, 3) := by decide +kernel
theorem dX8_canAct_68 : decode cX8_canAct 68 = .ok (.aload_n 0, 1) := by decide +kernel
theorem dX8_canAct_69 : decode cX8_canAct 69 = .ok (.getfield 19, 3) := by decide +kernel
theorem dX8_canAct_72 : decode cX8_canAct 72 = .ok (.iload 6, 2) := by decide +kernel
theorem dX8_canAct_74 : decode cX8_canAct 74 = .ok (.iaload, 1) := by decide +kernel
theorem dX8_canAct_75 : decode cX8_canAct 75 = .ok (.ifCond .ne 7, 3) := by decide +kernel
theorem dX8_canAct_78 : decode cX8_canAct 78 = .ok (.iconst 1, 1) := by decide +kernel
theorem dX8_canAct_79 : decode cX8_canAct 79 = .ok (.goto 4, 3) := by decide +kernel
theorem dX8_canAct_82 : decode cX8_canAct 82 = .ok (.iconst 0, 1) := by decide +kernel
theorem dX8_canAct_83 : decode cX8_canAct 83 = .ok (.istore 4, 2) := by decide +kernel
theorem dX8_canAct_85 : decode cX8_canAct 85 = .ok (.iinc 6 1, 3) := by decide +kernel
theorem dX8_canAct_88 : decode cX8_canAct 88 = .ok (.goto (-43), 3) := by decide +kernel
theorem dX8_canAct_91 : decode cX8_canAct 91 = .ok (.iload 4, 2) := by decide +kernel
theorem dX8_canAct_93 : decode cX8_canAct 93 = .ok (.ireturn, 1) := by decide +kernel
set_option maxRecDepth 20000 in
theorem ggX8_staysBy_X8_holdsOf : GoodIn wsX8_staysBy wsX8_holdsOf := goodIn_r _ [5, 6, 7, 8, 9, 10, 11, 12, 13, 14, 15, 16, 17, 18, 19, 20, 21, 22, 23, 24, 25, 26, 27, 28, 29, 30, 31, 32, 33, 34, 35, 36, 37, 38] (by decide +kernel) (by decide +kernel)
set_option maxRecDepth 20000 in
theorem gX8_staysBy_X8_holdsOf : GoodIn wsX8_staysBy (wsV RX8 136 RX8 yX8_holdsOf wsX8_holdsOf) := goodIn_app (goodIn_of _ (by decide +kernel)) ggX8_staysBy_X8_holdsOf
theorem dX8_staysBy_0 : decode cX8_staysBy 0 = .ok (.iload_n 1, 1) := by decide +kernel
theorem dX8_staysBy_1 : decode cX8_staysBy 1 = .ok (.ifCond .ne 11, 3) := by decide +kernel
theorem dX8_staysBy_4 : decode cX8_staysBy 4 = .ok (.aload_n 0, 1) := by decide +kernel
theorem dX8_staysBy_5 : decode cX8_staysBy 5 = .ok (.iload_n 2, 1) := by decide +kernel
theorem dX8_staysBy_6 : decode cX8_staysBy 6 = .ok (.invokevirtual 136, 3) := by decide +kernel
theorem dX8_staysBy_9 : decode cX8_staysBy 9 = .ok (.goto 19, 3) := by decide +kernel
theorem dX8_staysBy_12 : decode cX8_staysBy 12 = .ok (.iload_n 1, 1) := by decide +kernel
theorem dX8_staysBy_13 : decode cX8_staysBy 13 = .ok (.iconst 2, 1) := by decide +kernel
theorem dX8_staysBy_14 : decode cX8_staysBy 14 = .ok (.if_icmp .ne 13, 3) := by decide +kernel
theorem dX8_staysBy_17 : decode cX8_staysBy 17 = .ok (.aload_n 0, 1) := by decide +kernel
theorem dX8_staysBy_18 : decode cX8_staysBy 18 = .ok (.iload_n 2, 1) := by decide +kernel
theorem dX8_staysBy_19 : decode cX8_staysBy 19 = .ok (.invokevirtual 136, 3) := by decide +kernel
theorem dX8_staysBy_22 : decode cX8_staysBy 22 = .ok (.iconst 2, 1) := by decide +kernel
theorem dX8_staysBy_23 : decode cX8_staysBy 23 = .ok (.idiv, 1) := by decide +kernel
theorem dX8_staysBy_24 : decode cX8_staysBy 24 = .ok (.goto 4, 3) := by decide +kernel
theorem dX8_staysBy_27 : decode cX8_staysBy 27 = .ok (.iconst 0, 1) := by decide +kernel
theorem dX8_staysBy_28 : decode cX8_staysBy 28 = .ok (.ireturn, 1) := by decide +kernel
theorem dX8_beginPlan_0 : decode cX8_beginPlan 0 = .ok (.aload_n 0, 1) := by decide +kernel
theorem dX8_beginPlan_1 : decode cX8_beginPlan 1 = .ok (.iconst 0, 1) := by decide +kernel
theorem dX8_beginPlan_2 : decode cX8_beginPlan 2 = .ok (.putfield 147, 3) := by decide +kernel
theorem dX8_beginPlan_5 : decode cX8_beginPlan 5 = .ok (.aload_n 0, 1) := by decide +kernel
theorem dX8_beginPlan_6 : decode cX8_beginPlan 6 = .ok (.aload_n 0, 1) := by decide +kernel
theorem dX8_beginPlan_7 : decode cX8_beginPlan 7 = .ok (.getfield 127, 3) := by decide +kernel
theorem dX8_beginPlan_10 : decode cX8_beginPlan 10 = .ok (.putfield 150, 3) := by decide +kernel
theorem dX8_beginPlan_13 : decode cX8_beginPlan 13 = .ok (.aload_n 0, 1) := by decide +kernel
theorem dX8_beginPlan_14 : decode cX8_beginPlan 14 = .ok (.bipush (-9), 2) := by decide +kernel
theorem dX8_beginPlan_16 : decode cX8_beginPlan 16 = .ok (.putfield 153, 3) := by decide +kernel
theorem dX8_beginPlan_19 : decode cX8_beginPlan 19 = .ok (.aload_n 0, 1) := by decide +kernel
theorem dX8_beginPlan_20 : decode cX8_beginPlan 20 = .ok (.lconst 1, 1) := by decide +kernel
theorem dX8_beginPlan_21 : decode cX8_beginPlan 21 = .ok (.putfield 156, 3) := by decide +kernel
theorem dX8_beginPlan_24 : decode cX8_beginPlan 24 = .ok (.aload_n 0, 1) := by decide +kernel
theorem dX8_beginPlan_25 : decode cX8_beginPlan 25 = .ok (.iconst 0, 1) := by decide +kernel
theorem dX8_beginPlan_26 : decode cX8_beginPlan 26 = .ok (.putfield 160, 3) := by decide +kernel
theorem dX8_beginPlan_29 : decode cX8_beginPlan 29 = .ok (.return_, 1) := by decide +kernel
set_option maxRecDepth 20000 in
theorem ggX8_goTurn_X8_staysBy : GoodIn wsX8_goTurn wsX8_staysBy := goodIn_r _ [10, 11, 12, 13, 9, 14, 15, 16, 17, 26, 27, 28, 29, 30, 31, 32, 33, 34, 35, 36, 37, 38, 39, 40, 41, 42, 43, 44, 45, 46, 47, 48, 49, 50, 51, 52, 53, 54, 55] (by decide +kernel) (by decide +kernel)
set_option maxRecDepth 20000 in
theorem gX8_goTurn_X8_staysBy : GoodIn wsX8_goTurn (wsV RX8 163 RX8 yX8_staysBy wsX8_staysBy) := goodIn_app (goodIn_of _ (by decide +kernel)) ggX8_goTurn_X8_staysBy
set_option maxRecDepth 20000 in
theorem ggX8_goTurn_X8_paceBy : GoodIn wsX8_goTurn wsX8_paceBy := goodIn_r _ [20] (by decide +kernel) (by decide +kernel)
set_option maxRecDepth 20000 in
theorem gX8_goTurn_X8_paceBy : GoodIn wsX8_goTurn (va_wsS RX8 141 yX8_paceBy wsX8_paceBy) := goodIn_app (goodIn_of _ (by decide +kernel)) ggX8_goTurn_X8_paceBy
set_option maxRecDepth 20000 in
theorem ggX8_goTurn_X8_cellBy : GoodIn wsX8_goTurn wsX8_cellBy := goodIn_r _ [24, 25, 26, 27, 28, 29, 30, 31, 32, 33, 34, 35, 36, 37, 38, 39, 40, 41, 42, 43, 44, 45, 46, 47, 48, 49, 50, 51, 52, 53, 54, 55] (by decide +kernel) (by decide +kernel)
set_option maxRecDepth 20000 in
theorem gX8_goTurn_X8_cellBy : GoodIn wsX8_goTurn (wsV RX8 144 RX8 yX8_cellBy wsX8_cellBy) := goodIn_app (goodIn_of _ (by decide +kernel)) ggX8_goTurn_X8_cellBy
theorem dX8_goTurn_0 : decode cX8_goTurn 0 = .ok (.aload_n 0, 1) := by decide +kernel
theorem dX8_goTurn_1 : decode cX8_goTurn 1 = .ok (.dup, 1) := by decide +kernel
theorem dX8_goTurn_2 : decode cX8_goTurn 2 = .ok (.getfield 156, 3) := by decide +kernel
theorem dX8_goTurn_5 : decode cX8_goTurn 5 = .ok (.ldc2_w 65, 3) := by decide +kernel
theorem dX8_goTurn_8 : decode cX8_goTurn 8 = .ok (.aload_n 0, 1) := by decide +kernel
theorem dX8_goTurn_9 : decode cX8_goTurn 9 = .ok (.iload_n 1, 1) := by decide +kernel
theorem dX8_goTurn_10 : decode cX8_goTurn 10 = .ok (.aload_n 0, 1) := by decide +kernel
theorem dX8_goTurn_11 : decode cX8_goTurn 11 = .ok (.getfield 147, 3) := by decide +kernel
theorem dX8_goTurn_14 : decode cX8_goTurn 14 = .ok (.invokevirtual 163, 3) := by decide +kernel
theorem dX8_goTurn_17 : decode cX8_goTurn 17 = .ok (.i2l, 1) := by decide +kernel
theorem dX8_goTurn_18 : decode cX8_goTurn 18 = .ok (.lsub, 1) := by decide +kernel
theorem dX8_goTurn_19 : decode cX8_goTurn 19 = .ok (.lmul, 1) := by decide +kernel
theorem dX8_goTurn_20 : decode cX8_goTurn 20 = .ok (.putfield 156, 3) := by decide +kernel
theorem dX8_goTurn_23 : decode cX8_goTurn 23 = .ok (.aload_n 0, 1) := by decide +kernel
theorem dX8_goTurn_24 : decode cX8_goTurn 24 = .ok (.dup, 1) := by decide +kernel
theorem dX8_goTurn_25 : decode cX8_goTurn 25 = .ok (.getfield 160, 3) := by decide +kernel
theorem dX8_goTurn_28 : decode cX8_goTurn 28 = .ok (.iload_n 1, 1) := by decide +kernel
theorem dX8_goTurn_29 : decode cX8_goTurn 29 = .ok (.iconst 2, 1) := by decide +kernel
theorem dX8_goTurn_30 : decode cX8_goTurn 30 = .ok (.irem, 1) := by decide +kernel
theorem dX8_goTurn_31 : decode cX8_goTurn 31 = .ok (.ifCond .ne 12, 3) := by decide +kernel
theorem dX8_goTurn_34 : decode cX8_goTurn 34 = .ok (.iconst 1, 1) := by decide +kernel
theorem dX8_goTurn_35 : decode cX8_goTurn 35 = .ok (.aload_n 0, 1) := by decide +kernel
theorem dX8_goTurn_36 : decode cX8_goTurn 36 = .ok (.getfield 147, 3) := by decide +kernel
theorem dX8_goTurn_39 : decode cX8_goTurn 39 = .ok (.ishl, 1) := by decide +kernel
theorem dX8_goTurn_40 : decode cX8_goTurn 40 = .ok (.goto 4, 3) := by decide +kernel
theorem dX8_goTurn_43 : decode cX8_goTurn 43 = .ok (.iconst 0, 1) := by decide +kernel
theorem dX8_goTurn_44 : decode cX8_goTurn 44 = .ok (.ior, 1) := by decide +kernel
theorem dX8_goTurn_45 : decode cX8_goTurn 45 = .ok (.putfield 160, 3) := by decide +kernel
theorem dX8_goTurn_48 : decode cX8_goTurn 48 = .ok (.aload_n 0, 1) := by decide +kernel
theorem dX8_goTurn_49 : decode cX8_goTurn 49 = .ok (.iload_n 1, 1) := by decide +kernel
theorem dX8_goTurn_50 : decode cX8_goTurn 50 = .ok (.aload_n 0, 1) := by decide +kernel
theorem dX8_goTurn_51 : decode cX8_goTurn 51 = .ok (.getfield 150, 3) := by decide +kernel
theorem dX8_goTurn_54 : decode cX8_goTurn 54 = .ok (.invokestatic 141, 3) := by decide +kernel
theorem dX8_goTurn_57 : decode cX8_goTurn 57 = .ok (.putfield 150, 3) := by decide +kernel
theorem dX8_goTurn_60 : decode cX8_goTurn 60 = .ok (.aload_n 0, 1) := by decide +kernel
theorem dX8_goTurn_61 : decode cX8_goTurn 61 = .ok (.aload_n 0, 1) := by decide +kernel
theorem dX8_goTurn_62 : decode cX8_goTurn 62 = .ok (.aload_n 0, 1) := by decide +kernel
theorem dX8_goTurn_63 : decode cX8_goTurn 63 = .ok (.getfield 147, 3) := by decide +kernel
theorem dX8_goTurn_66 : decode cX8_goTurn 66 = .ok (.aload_n 0, 1) := by decide +kernel
theorem dX8_goTurn_67 : decode cX8_goTurn 67 = .ok (.getfield 150, 3) := by decide +kernel
theorem dX8_goTurn_70 : decode cX8_goTurn 70 = .ok (.invokevirtual 144, 3) := by decide +kernel
theorem dX8_goTurn_73 : decode cX8_goTurn 73 = .ok (.putfield 147, 3) := by decide +kernel
theorem dX8_goTurn_76 : decode cX8_goTurn 76 = .ok (.return_, 1) := by decide +kernel
set_option maxRecDepth 20000 in
theorem ggX8_goPlan_X8_beginPlan : GoodIn wsX8_goPlan wsX8_beginPlan := goodIn_r _ [9, 3, 10, 4, 1, 11, 12, 42, 43, 44, 45, 46, 47, 48, 49, 50, 51, 52, 53, 54, 55, 56, 57, 58, 59, 60, 61, 62, 63, 64, 65, 66, 67, 68, 69, 70, 71] (by decide +kernel) (by decide +kernel)
set_option maxRecDepth 20000 in
theorem gX8_goPlan_X8_beginPlan : GoodIn wsX8_goPlan (wsV RX8 166 RX8 yX8_beginPlan wsX8_beginPlan) := goodIn_app (goodIn_of _ (by decide +kernel)) ggX8_goPlan_X8_beginPlan
set_option maxRecDepth 20000 in
theorem ggX8_goPlan_X8_canAct : GoodIn wsX8_goPlan wsX8_canAct := goodIn_r _ [16, 17, 18, 19, 20, 21, 8, 22, 23, 24, 25, 26, 42, 43, 44, 45, 46, 47, 48, 49, 50, 51, 52, 53, 54, 55, 56, 57, 58, 59, 60, 61, 62, 63, 64, 65, 66, 67, 68, 69, 70, 71] (by decide +kernel) (by decide +kernel)
set_option maxRecDepth 20000 in
theorem gX8_goPlan_X8_canAct : GoodIn wsX8_goPlan (wsV RX8 169 RX8 yX8_canAct wsX8_canAct) := goodIn_app (goodIn_of _ (by decide +kernel)) ggX8_goPlan_X8_canAct
set_option maxRecDepth 20000 in
theorem ggX8_goPlan_X8_goTurn : GoodIn wsX8_goPlan wsX8_goTurn := goodIn_r _ [30, 11, 31, 3, 12, 4, 32, 33, 34, 8, 35, 36, 37, 38, 39, 40, 41, 18, 20, 21, 22, 23, 24, 25, 26, 17, 42, 43, 44, 45, 46, 47, 48, 49, 50, 51, 52, 53, 54, 55, 56, 57, 58, 59, 60, 61, 62, 63, 64, 65, 66, 67, 68, 69, 70, 71] (by decide +kernel) (by decide +kernel)
set_option maxRecDepth 20000 in
theorem gX8_goPlan_X8_goTurn : GoodIn wsX8_goPlan (wsV RX8 173 RX8 yX8_goTurn wsX8_goTurn) := goodIn_app (goodIn_of _ (by decide +kernel)) ggX8_goPlan_X8_goTurn
theorem dX8_goPlan_0 : decode cX8_goPlan 0 = .ok (.aload_n 0, 1) := by decide +kernel
theorem dX8_goPlan_1 : decode cX8_goPlan 1 = .ok (.invokevirtual 166, 3) := by decide +kernel
theorem dX8_goPlan_4 : decode cX8_goPlan 4 = .ok (.iconst 0, 1) := by decide +kernel
theorem dX8_goPlan_5 : decode cX8_goPlan 5 = .ok (.istore_n 3, 1) := by decide +kernel
theorem dX8_goPlan_6 : decode cX8_goPlan 6 = .ok (.iload_n 3, 1) := by decide +kernel
theorem dX8_goPlan_7 : decode cX8_goPlan 7 = .ok (.iload_n 2, 1) := by decide +kernel
theorem dX8_goPlan_8 : decode cX8_goPlan 8 = .ok (.if_icmp .ge 59, 3) := by decide +kernel
theorem dX8_goPlan_11 : decode cX8_goPlan 11 = .ok (.aload_n 0, 1) := by decide +kernel
theorem dX8_goPlan_12 : decode cX8_goPlan 12 = .ok (.getfield 153, 3) := by decide +kernel
theorem dX8_goPlan_15 : decode cX8_goPlan 15 = .ok (.ifCond .ge 52, 3) := by decide +kernel
theorem dX8_goPlan_18 : decode cX8_goPlan 18 = .ok (.aload_n 0, 1) := by decide +kernel
theorem dX8_goPlan_19 : decode cX8_goPlan 19 = .ok (.aload_n 0, 1) := by decide +kernel
theorem dX8_goPlan_20 : decode cX8_goPlan 20 = .ok (.getfield 57, 3) := by decide +kernel
theorem dX8_goPlan_23 : decode cX8_goPlan 23 = .ok (.iload_n 1, 1) := by decide +kernel
theorem dX8_goPlan_24 : decode cX8_goPlan 24 = .ok (.iload_n 3, 1) := by decide +kernel
theorem dX8_goPlan_25 : decode cX8_goPlan 25 = .ok (.iadd, 1) := by decide +kernel
theorem dX8_goPlan_26 : decode cX8_goPlan 26 = .ok (.iaload, 1) := by decide +kernel
theorem dX8_goPlan_27 : decode cX8_goPlan 27 = .ok (.aload_n 0, 1) := by decide +kernel
theorem dX8_goPlan_28 : decode cX8_goPlan 28 = .ok (.getfield 147, 3) := by decide +kernel
theorem dX8_goPlan_31 : decode cX8_goPlan 31 = .ok (.aload_n 0, 1) := by decide +kernel
theorem dX8_goPlan_32 : decode cX8_goPlan 32 = .ok (.getfield 150, 3) := by decide +kernel
theorem dX8_goPlan_35 : decode cX8_goPlan 35 = .ok (.invokevirtual 169, 3) := by decide +kernel
theorem dX8_goPlan_38 : decode cX8_goPlan 38 = .ok (.ifCond .eq 18, 3) := by decide +kernel
theorem dX8_goPlan_41 : decode cX8_goPlan 41 = .ok (.aload_n 0, 1) := by decide +kernel
theorem dX8_goPlan_42 : decode cX8_goPlan 42 = .ok (.aload_n 0, 1) := by decide +kernel
theorem dX8_goPlan_43 : decode cX8_goPlan 43 = .ok (.getfield 57, 3) := by decide +kernel
theorem dX8_goPlan_46 : decode cX8_goPlan 46 = .ok (.iload_n 1, 1) := by decide +kernel
theorem dX8_goPlan_47 : decode cX8_goPlan 47 = .ok (.iload_n 3, 1) := by decide +kernel
theorem dX8_goPlan_48 : decode cX8_goPlan 48 = .ok (.iadd, 1) := by decide +kernel
theorem dX8_goPlan_49 : decode cX8_goPlan 49 = .ok (.iaload, 1) := by decide +kernel
theorem dX8_goPlan_50 : decode cX8_goPlan 50 = .ok (.invokevirtual 173, 3) := by decide +kernel
theorem dX8_goPlan_53 : decode cX8_goPlan 53 = .ok (.goto 8, 3) := by decide +kernel
theorem dX8_goPlan_56 : decode cX8_goPlan 56 = .ok (.aload_n 0, 1) := by decide +kernel
theorem dX8_goPlan_57 : decode cX8_goPlan 57 = .ok (.iload_n 3, 1) := by decide +kernel
theorem dX8_goPlan_58 : decode cX8_goPlan 58 = .ok (.putfield 153, 3) := by decide +kernel
theorem dX8_goPlan_61 : decode cX8_goPlan 61 = .ok (.iinc 3 1, 3) := by decide +kernel
theorem dX8_goPlan_64 : decode cX8_goPlan 64 = .ok (.goto (-58), 3) := by decide +kernel
theorem dX8_goPlan_67 : decode cX8_goPlan 67 = .ok (.return_, 1) := by decide +kernel
set_option maxRecDepth 20000 in
theorem ggX8_actsBarred_X8_cellsBarred : GoodIn wsX8_actsBarred wsX8_cellsBarred := goodIn_r _ [7, 8, 9, 10, 11, 12, 6, 13, 14, 15, 16, 17, 25, 26, 27, 28, 29, 30, 31, 32, 33, 34, 35, 36, 37, 38, 39, 40, 41, 42, 43, 44, 45, 46, 47, 48, 49, 50, 51, 52, 53, 54] (by decide +kernel) (by decide +kernel)
set_option maxRecDepth 20000 in
theorem gX8_actsBarred_X8_cellsBarred : GoodIn wsX8_actsBarred (wsV RX8 120 RX8 yX8_cellsBarred wsX8_cellsBarred) := goodIn_app (goodIn_of _ (by decide +kernel)) ggX8_actsBarred_X8_cellsBarred
set_option maxRecDepth 20000 in
theorem ggX8_actsBarred_X8_in : GoodIn wsX8_actsBarred wsX8_in := goodIn_r _ [20] (by decide +kernel) (by decide +kernel)
set_option maxRecDepth 20000 in
theorem gX8_actsBarred_X8_in : GoodIn wsX8_actsBarred (va_wsS RX8 78 yX8_in wsX8_in) := goodIn_app (goodIn_of _ (by decide +kernel)) ggX8_actsBarred_X8_in
set_option maxRecDepth 20000 in
theorem ggX8_actsBarred_X8_refused : GoodIn wsX8_actsBarred wsX8_refused := goodIn_r _ [24, 14, 25, 26, 27, 28, 29, 30, 31, 32, 33, 34, 35, 36, 37, 38, 39, 40, 41, 42, 43, 44, 45, 46, 47, 48, 49, 50, 51, 52, 53, 54] (by decide +kernel) (by decide +kernel)
set_option maxRecDepth 20000 in
theorem gX8_actsBarred_X8_refused : GoodIn wsX8_actsBarred (wsV RX8 115 RX8 yX8_refused wsX8_refused) := goodIn_app (goodIn_of _ (by decide +kernel)) ggX8_actsBarred_X8_refused
theorem dX8_actsBarred_0 : decode cX8_actsBarred 0 = .ok (.aload_n 0, 1) := by decide +kernel
theorem dX8_actsBarred_1 : decode cX8_actsBarred 1 = .ok (.iload_n 1, 1) := by decide +kernel
theorem dX8_actsBarred_2 : decode cX8_actsBarred 2 = .ok (.iload_n 2, 1) := by decide +kernel
theorem dX8_actsBarred_3 : decode cX8_actsBarred 3 = .ok (.iload_n 3, 1) := by decide +kernel
theorem dX8_actsBarred_4 : decode cX8_actsBarred 4 = .ok (.iload 4, 2) := by decide +kernel
theorem dX8_actsBarred_6 : decode cX8_actsBarred 6 = .ok (.i2l, 1) := by decide +kernel
theorem dX8_actsBarred_7 : decode cX8_actsBarred 7 = .ok (.invokevirtual 120, 3) := by decide +kernel
theorem dX8_actsBarred_10 : decode cX8_actsBarred 10 = .ok (.istore 5, 2) := by decide +kernel
theorem dX8_actsBarred_12 : decode cX8_actsBarred 12 = .ok (.iload 5, 2) := by decide +kernel
theorem dX8_actsBarred_14 : decode cX8_actsBarred 14 = .ok (.ifCond .ge 6, 3) := by decide +kernel
theorem dX8_actsBarred_17 : decode cX8_actsBarred 17 = .ok (.iload 5, 2) := by decide +kernel
theorem dX8_actsBarred_19 : decode cX8_actsBarred 19 = .ok (.ireturn, 1) := by decide +kernel
theorem dX8_actsBarred_20 : decode cX8_actsBarred 20 = .ok (.iconst 0, 1) := by decide +kernel
theorem dX8_actsBarred_21 : decode cX8_actsBarred 21 = .ok (.istore 6, 2) := by decide +kernel
theorem dX8_actsBarred_23 : decode cX8_actsBarred 23 = .ok (.iload 6, 2) := by decide +kernel
theorem dX8_actsBarred_25 : decode cX8_actsBarred 25 = .ok (.iload 4, 2) := by decide +kernel
theorem dX8_actsBarred_27 : decode cX8_actsBarred 27 = .ok (.if_icmp .ge 41, 3) := by decide +kernel
theorem dX8_actsBarred_30 : decode cX8_actsBarred 30 = .ok (.aload_n 0, 1) := by decide +kernel
theorem dX8_actsBarred_31 : decode cX8_actsBarred 31 = .ok (.getfield 57, 3) := by decide +kernel
theorem dX8_actsBarred_34 : decode cX8_actsBarred 34 = .ok (.bipush 60, 2) := by decide +kernel
theorem dX8_actsBarred_36 : decode cX8_actsBarred 36 = .ok (.iload_n 1, 1) := by decide +kernel
theorem dX8_actsBarred_37 : decode cX8_actsBarred 37 = .ok (.imul, 1) := by decide +kernel
theorem dX8_actsBarred_38 : decode cX8_actsBarred 38 = .ok (.iload_n 3, 1) := by decide +kernel
theorem dX8_actsBarred_39 : decode cX8_actsBarred 39 = .ok (.iadd, 1) := by decide +kernel
theorem dX8_actsBarred_40 : decode cX8_actsBarred 40 = .ok (.iload 6, 2) := by decide +kernel
theorem dX8_actsBarred_42 : decode cX8_actsBarred 42 = .ok (.iadd, 1) := by decide +kernel
theorem dX8_actsBarred_43 : decode cX8_actsBarred 43 = .ok (.iaload, 1) := by decide +kernel
theorem dX8_actsBarred_44 : decode cX8_actsBarred 44 = .ok (.i2l, 1) := by decide +kernel
theorem dX8_actsBarred_45 : decode cX8_actsBarred 45 = .ok (.lconst 0, 1) := by decide +kernel
theorem dX8_actsBarred_46 : decode cX8_actsBarred 46 = .ok (.ldc2_w 139, 3) := by decide +kernel
theorem dX8_actsBarred_49 : decode cX8_actsBarred 49 = .ok (.invokestatic 78, 3) := by decide +kernel
theorem dX8_actsBarred_52 : decode cX8_actsBarred 52 = .ok (.ifCond .ne 10, 3) := by decide +kernel
theorem dX8_actsBarred_55 : decode cX8_actsBarred 55 = .ok (.aload_n 0, 1) := by decide +kernel
theorem dX8_actsBarred_56 : decode cX8_actsBarred 56 = .ok (.bipush (-2), 2) := by decide +kernel
