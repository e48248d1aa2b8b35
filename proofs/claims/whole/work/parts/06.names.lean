theorem dX8_actsBarred_58 : decode cX8_actsBarred 58 = .ok (.invokevirtual 115, 3) := by decide +kernel
theorem dX8_actsBarred_61 : decode cX8_actsBarred 61 = .ok (.ireturn, 1) := by decide +kernel
theorem dX8_actsBarred_62 : decode cX8_actsBarred 62 = .ok (.iinc 6 1, 3) := by decide +kernel
theorem dX8_actsBarred_65 : decode cX8_actsBarred 65 = .ok (.goto (-42), 3) := by decide +kernel
theorem dX8_actsBarred_68 : decode cX8_actsBarred 68 = .ok (.aload_n 0, 1) := by decide +kernel
theorem dX8_actsBarred_69 : decode cX8_actsBarred 69 = .ok (.iconst 0, 1) := by decide +kernel
theorem dX8_actsBarred_70 : decode cX8_actsBarred 70 = .ok (.invokevirtual 115, 3) := by decide +kernel
theorem dX8_actsBarred_73 : decode cX8_actsBarred 73 = .ok (.ireturn, 1) := by decide +kernel
set_option maxRecDepth 20000 in
theorem ggX8_planBarred_X8_noSheet : GoodIn wsX8_planBarred wsX8_noSheet := goodIn_r _ [7, 8, 9, 10, 6, 11] (by decide +kernel) (by decide +kernel)
set_option maxRecDepth 20000 in
theorem gX8_planBarred_X8_noSheet : GoodIn wsX8_planBarred (va_wsS RX8 111 yX8_noSheet wsX8_noSheet) := goodIn_app (goodIn_of _ (by decide +kernel)) ggX8_planBarred_X8_noSheet
set_option maxRecDepth 20000 in
theorem ggX8_planBarred_X8_refused : GoodIn wsX8_planBarred wsX8_refused := goodIn_r _ [15, 16, 35, 36, 37, 38, 39, 40, 41, 42, 43, 44, 45, 46, 47, 48, 49, 50, 51, 52, 53, 54, 55, 56, 57, 58, 59, 60, 61, 62, 63, 64] (by decide +kernel) (by decide +kernel)
set_option maxRecDepth 20000 in
theorem gX8_planBarred_X8_refused : GoodIn wsX8_planBarred (wsV RX8 115 RX8 yX8_refused wsX8_refused) := goodIn_app (goodIn_of _ (by decide +kernel)) ggX8_planBarred_X8_refused
set_option maxRecDepth 20000 in
theorem ggX8_planBarred_X8_in : GoodIn wsX8_planBarred wsX8_in := goodIn_r _ [11] (by decide +kernel) (by decide +kernel)
set_option maxRecDepth 20000 in
theorem gX8_planBarred_X8_in : GoodIn wsX8_planBarred (va_wsS RX8 78 yX8_in wsX8_in) := goodIn_app (goodIn_of _ (by decide +kernel)) ggX8_planBarred_X8_in
set_option maxRecDepth 20000 in
theorem ggX8_planBarred_X8_actsBarred : GoodIn wsX8_planBarred wsX8_actsBarred := goodIn_r _ [20, 21, 8, 22, 23, 24, 6, 25, 26, 27, 28, 29, 30, 31, 16, 32, 33, 34, 9, 10, 11, 12, 13, 14, 15, 35, 36, 37, 38, 39, 40, 41, 42, 43, 44, 45, 46, 47, 48, 49, 50, 51, 52, 53, 54, 55, 56, 57, 58, 59, 60, 61, 62, 63, 64] (by decide +kernel) (by decide +kernel)
set_option maxRecDepth 20000 in
theorem gX8_planBarred_X8_actsBarred : GoodIn wsX8_planBarred (wsV RX8 179 RX8 yX8_actsBarred wsX8_actsBarred) := goodIn_app (goodIn_of _ (by decide +kernel)) ggX8_planBarred_X8_actsBarred
theorem dX8_planBarred_0 : decode cX8_planBarred 0 = .ok (.iload_n 1, 1) := by decide +kernel
theorem dX8_planBarred_1 : decode cX8_planBarred 1 = .ok (.invokestatic 111, 3) := by decide +kernel
theorem dX8_planBarred_4 : decode cX8_planBarred 4 = .ok (.ifCond .eq 9, 3) := by decide +kernel
theorem dX8_planBarred_7 : decode cX8_planBarred 7 = .ok (.aload_n 0, 1) := by decide +kernel
theorem dX8_planBarred_8 : decode cX8_planBarred 8 = .ok (.iconst (-1), 1) := by decide +kernel
theorem dX8_planBarred_9 : decode cX8_planBarred 9 = .ok (.invokevirtual 115, 3) := by decide +kernel
theorem dX8_planBarred_12 : decode cX8_planBarred 12 = .ok (.ireturn, 1) := by decide +kernel
theorem dX8_planBarred_13 : decode cX8_planBarred 13 = .ok (.iload_n 2, 1) := by decide +kernel
theorem dX8_planBarred_14 : decode cX8_planBarred 14 = .ok (.i2l, 1) := by decide +kernel
theorem dX8_planBarred_15 : decode cX8_planBarred 15 = .ok (.lconst 0, 1) := by decide +kernel
theorem dX8_planBarred_16 : decode cX8_planBarred 16 = .ok (.ldc2_w 118, 3) := by decide +kernel
theorem dX8_planBarred_19 : decode cX8_planBarred 19 = .ok (.invokestatic 78, 3) := by decide +kernel
theorem dX8_planBarred_22 : decode cX8_planBarred 22 = .ok (.ifCond .eq 21, 3) := by decide +kernel
theorem dX8_planBarred_25 : decode cX8_planBarred 25 = .ok (.iload 4, 2) := by decide +kernel
theorem dX8_planBarred_27 : decode cX8_planBarred 27 = .ok (.i2l, 1) := by decide +kernel
theorem dX8_planBarred_28 : decode cX8_planBarred 28 = .ok (.lconst 0, 1) := by decide +kernel
theorem dX8_planBarred_29 : decode cX8_planBarred 29 = .ok (.ldc2_w 177, 3) := by decide +kernel
theorem dX8_planBarred_32 : decode cX8_planBarred 32 = .ok (.invokestatic 78, 3) := by decide +kernel
theorem dX8_planBarred_35 : decode cX8_planBarred 35 = .ok (.ifCond .eq 8, 3) := by decide +kernel
theorem dX8_planBarred_38 : decode cX8_planBarred 38 = .ok (.iload 5, 2) := by decide +kernel
theorem dX8_planBarred_40 : decode cX8_planBarred 40 = .ok (.ifCond .ne 10, 3) := by decide +kernel
theorem dX8_planBarred_43 : decode cX8_planBarred 43 = .ok (.aload_n 0, 1) := by decide +kernel
theorem dX8_planBarred_44 : decode cX8_planBarred 44 = .ok (.bipush (-2), 2) := by decide +kernel
theorem dX8_planBarred_46 : decode cX8_planBarred 46 = .ok (.invokevirtual 115, 3) := by decide +kernel
theorem dX8_planBarred_49 : decode cX8_planBarred 49 = .ok (.ireturn, 1) := by decide +kernel
theorem dX8_planBarred_50 : decode cX8_planBarred 50 = .ok (.aload_n 0, 1) := by decide +kernel
theorem dX8_planBarred_51 : decode cX8_planBarred 51 = .ok (.getfield 75, 3) := by decide +kernel
theorem dX8_planBarred_54 : decode cX8_planBarred 54 = .ok (.ifCond .ne 12, 3) := by decide +kernel
theorem dX8_planBarred_57 : decode cX8_planBarred 57 = .ok (.aload_n 0, 1) := by decide +kernel
theorem dX8_planBarred_58 : decode cX8_planBarred 58 = .ok (.bipush (-3), 2) := by decide +kernel
theorem dX8_planBarred_60 : decode cX8_planBarred 60 = .ok (.invokevirtual 115, 3) := by decide +kernel
theorem dX8_planBarred_63 : decode cX8_planBarred 63 = .ok (.goto 12, 3) := by decide +kernel
theorem dX8_planBarred_66 : decode cX8_planBarred 66 = .ok (.aload_n 0, 1) := by decide +kernel
theorem dX8_planBarred_67 : decode cX8_planBarred 67 = .ok (.iload_n 1, 1) := by decide +kernel
theorem dX8_planBarred_68 : decode cX8_planBarred 68 = .ok (.iload_n 2, 1) := by decide +kernel
theorem dX8_planBarred_69 : decode cX8_planBarred 69 = .ok (.iload_n 3, 1) := by decide +kernel
theorem dX8_planBarred_70 : decode cX8_planBarred 70 = .ok (.iload 4, 2) := by decide +kernel
theorem dX8_planBarred_72 : decode cX8_planBarred 72 = .ok (.invokevirtual 179, 3) := by decide +kernel
theorem dX8_planBarred_75 : decode cX8_planBarred 75 = .ok (.ireturn, 1) := by decide +kernel
set_option maxRecDepth 20000 in
theorem ggX8_plan_X8_in : GoodIn wsX8_plan wsX8_in := goodIn_r _ [8] (by decide +kernel) (by decide +kernel)
set_option maxRecDepth 20000 in
theorem gX8_plan_X8_in : GoodIn wsX8_plan (va_wsS RX8 78 yX8_in wsX8_in) := goodIn_app (goodIn_of _ (by decide +kernel)) ggX8_plan_X8_in
set_option maxRecDepth 20000 in
theorem ggX8_plan_X8_planBarred : GoodIn wsX8_plan wsX8_planBarred := goodIn_r _ [12, 1, 13, 14, 15, 16, 7, 17, 18, 5, 6, 8, 19, 20, 21, 22, 23, 24, 25, 26, 27, 28, 29, 30, 31, 32, 33, 34, 35, 36, 37, 38, 39, 40, 41, 81, 82, 83, 84, 85, 86, 87, 88, 89, 90, 91, 92, 93, 94, 95, 96, 97, 98, 99, 100, 101, 102, 103, 104, 105, 106, 107, 108, 109, 110] (by decide +kernel) (by decide +kernel)
set_option maxRecDepth 20000 in
theorem gX8_plan_X8_planBarred : GoodIn wsX8_plan (wsV RX8 183 RX8 yX8_planBarred wsX8_planBarred) := goodIn_app (goodIn_of _ (by decide +kernel)) ggX8_plan_X8_planBarred
set_option maxRecDepth 20000 in
theorem ggX8_plan_X8_goPlan : GoodIn wsX8_plan wsX8_goPlan := goodIn_r _ [45, 2, 28, 3, 4, 46, 47, 48, 7, 49, 50, 51, 52, 53, 54, 55, 56, 14, 57, 58, 59, 60, 61, 62, 63, 64, 65, 66, 67, 68, 69, 70, 71, 72, 73, 74, 75, 76, 77, 78, 79, 80, 81, 82, 83, 84, 85, 86, 87, 88, 89, 90, 91, 92, 93, 94, 95, 96, 97, 98, 99, 100, 101, 102, 103, 104, 105, 106, 107, 108, 109, 110] (by decide +kernel) (by decide +kernel)
set_option maxRecDepth 20000 in
theorem gX8_plan_X8_goPlan : GoodIn wsX8_plan (wsV RX8 187 RX8 yX8_goPlan wsX8_goPlan) := goodIn_app (goodIn_of _ (by decide +kernel)) ggX8_plan_X8_goPlan
theorem dX8_plan_0 : decode cX8_plan 0 = .ok (.aload_n 0, 1) := by decide +kernel
theorem dX8_plan_1 : decode cX8_plan 1 = .ok (.iload_n 1, 1) := by decide +kernel
theorem dX8_plan_2 : decode cX8_plan 2 = .ok (.iload_n 2, 1) := by decide +kernel
theorem dX8_plan_3 : decode cX8_plan 3 = .ok (.iload_n 3, 1) := by decide +kernel
theorem dX8_plan_4 : decode cX8_plan 4 = .ok (.iload 4, 2) := by decide +kernel
theorem dX8_plan_6 : decode cX8_plan 6 = .ok (.iload 5, 2) := by decide +kernel
theorem dX8_plan_8 : decode cX8_plan 8 = .ok (.i2l, 1) := by decide +kernel
theorem dX8_plan_9 : decode cX8_plan 9 = .ok (.lconst 0, 1) := by decide +kernel
theorem dX8_plan_10 : decode cX8_plan 10 = .ok (.ldc2_w 118, 3) := by decide +kernel
theorem dX8_plan_13 : decode cX8_plan 13 = .ok (.invokestatic 78, 3) := by decide +kernel
theorem dX8_plan_16 : decode cX8_plan 16 = .ok (.invokevirtual 183, 3) := by decide +kernel
theorem dX8_plan_19 : decode cX8_plan 19 = .ok (.istore 6, 2) := by decide +kernel
theorem dX8_plan_21 : decode cX8_plan 21 = .ok (.iload 6, 2) := by decide +kernel
theorem dX8_plan_23 : decode cX8_plan 23 = .ok (.ifCond .ge 6, 3) := by decide +kernel
theorem dX8_plan_26 : decode cX8_plan 26 = .ok (.iload 6, 2) := by decide +kernel
theorem dX8_plan_28 : decode cX8_plan 28 = .ok (.ireturn, 1) := by decide +kernel
theorem dX8_plan_29 : decode cX8_plan 29 = .ok (.aload_n 0, 1) := by decide +kernel
theorem dX8_plan_30 : decode cX8_plan 30 = .ok (.bipush 60, 2) := by decide +kernel
theorem dX8_plan_32 : decode cX8_plan 32 = .ok (.iload_n 1, 1) := by decide +kernel
theorem dX8_plan_33 : decode cX8_plan 33 = .ok (.imul, 1) := by decide +kernel
theorem dX8_plan_34 : decode cX8_plan 34 = .ok (.iload_n 3, 1) := by decide +kernel
theorem dX8_plan_35 : decode cX8_plan 35 = .ok (.iadd, 1) := by decide +kernel
theorem dX8_plan_36 : decode cX8_plan 36 = .ok (.iload 4, 2) := by decide +kernel
theorem dX8_plan_38 : decode cX8_plan 38 = .ok (.invokevirtual 187, 3) := by decide +kernel
theorem dX8_plan_41 : decode cX8_plan 41 = .ok (.iload 5, 2) := by decide +kernel
theorem dX8_plan_43 : decode cX8_plan 43 = .ok (.iconst 1, 1) := by decide +kernel
theorem dX8_plan_44 : decode cX8_plan 44 = .ok (.if_icmp .ne 8, 3) := by decide +kernel
theorem dX8_plan_47 : decode cX8_plan 47 = .ok (.aload_n 0, 1) := by decide +kernel
theorem dX8_plan_48 : decode cX8_plan 48 = .ok (.getfield 153, 3) := by decide +kernel
theorem dX8_plan_51 : decode cX8_plan 51 = .ok (.ireturn, 1) := by decide +kernel
theorem dX8_plan_52 : decode cX8_plan 52 = .ok (.aload_n 0, 1) := by decide +kernel
theorem dX8_plan_53 : decode cX8_plan 53 = .ok (.getfield 153, 3) := by decide +kernel
theorem dX8_plan_56 : decode cX8_plan 56 = .ok (.ifCond .lt 13, 3) := by decide +kernel
theorem dX8_plan_59 : decode cX8_plan 59 = .ok (.bipush (-100), 2) := by decide +kernel
theorem dX8_plan_61 : decode cX8_plan 61 = .ok (.aload_n 0, 1) := by decide +kernel
theorem dX8_plan_62 : decode cX8_plan 62 = .ok (.getfield 153, 3) := by decide +kernel
theorem dX8_plan_65 : decode cX8_plan 65 = .ok (.isub, 1) := by decide +kernel
theorem dX8_plan_66 : decode cX8_plan 66 = .ok (.goto 19, 3) := by decide +kernel
theorem dX8_plan_69 : decode cX8_plan 69 = .ok (.iload 5, 2) := by decide +kernel
theorem dX8_plan_71 : decode cX8_plan 71 = .ok (.ifCond .ne 10, 3) := by decide +kernel
theorem dX8_plan_74 : decode cX8_plan 74 = .ok (.aload_n 0, 1) := by decide +kernel
theorem dX8_plan_75 : decode cX8_plan 75 = .ok (.getfield 147, 3) := by decide +kernel
theorem dX8_plan_78 : decode cX8_plan 78 = .ok (.goto 7, 3) := by decide +kernel
theorem dX8_plan_81 : decode cX8_plan 81 = .ok (.aload_n 0, 1) := by decide +kernel
theorem dX8_plan_82 : decode cX8_plan 82 = .ok (.getfield 150, 3) := by decide +kernel
theorem dX8_plan_85 : decode cX8_plan 85 = .ok (.ireturn, 1) := by decide +kernel
set_option maxRecDepth 20000 in
theorem ggX8_dry_X8_in : GoodIn wsX8_dry wsX8_in := goodIn_r _ [6] (by decide +kernel) (by decide +kernel)
set_option maxRecDepth 20000 in
theorem gX8_dry_X8_in : GoodIn wsX8_dry (va_wsS RX8 78 yX8_in wsX8_in) := goodIn_app (goodIn_of _ (by decide +kernel)) ggX8_dry_X8_in
set_option maxRecDepth 20000 in
theorem ggX8_dry_X8_planBarred : GoodIn wsX8_dry wsX8_planBarred := goodIn_r _ [10, 11, 12, 13, 14, 15, 5, 16, 17, 3, 4, 6, 18, 19, 20, 21, 22, 23, 24, 25, 26, 27, 28, 29, 30, 31, 32, 33, 34, 35, 36, 37, 38, 39, 40, 91, 92, 93, 94, 95, 96, 97, 98, 99, 100, 101, 102, 103, 104, 105, 106, 107, 108, 109, 110, 111, 112, 113, 114, 115, 116, 117, 118, 119, 120] (by decide +kernel) (by decide +kernel)
set_option maxRecDepth 20000 in
theorem gX8_dry_X8_planBarred : GoodIn wsX8_dry (wsV RX8 183 RX8 yX8_planBarred wsX8_planBarred) := goodIn_app (goodIn_of _ (by decide +kernel)) ggX8_dry_X8_planBarred
set_option maxRecDepth 20000 in
theorem ggX8_dry_X8_lost : GoodIn wsX8_dry wsX8_lost := goodIn_r _ [43, 44] (by decide +kernel) (by decide +kernel)
set_option maxRecDepth 20000 in
theorem gX8_dry_X8_lost : GoodIn wsX8_dry (va_wsS RX8 71 yX8_lost wsX8_lost) := goodIn_app (goodIn_of _ (by decide +kernel)) ggX8_dry_X8_lost
set_option maxRecDepth 20000 in
theorem ggX8_dry_X8_goPlan : GoodIn wsX8_dry wsX8_goPlan := goodIn_r _ [48, 1, 27, 49, 50, 51, 52, 53, 5, 54, 55, 2, 56, 57, 58, 59, 60, 13, 61, 62, 63, 64, 65, 66, 67, 68, 69, 70, 71, 72, 73, 74, 75, 76, 77, 78, 79, 80, 81, 82, 83, 84, 91, 92, 93, 94, 95, 96, 97, 98, 99, 100, 101, 102, 103, 104, 105, 106, 107, 108, 109, 110, 111, 112, 113, 114, 115, 116, 117, 118, 119, 120] (by decide +kernel) (by decide +kernel)
set_option maxRecDepth 20000 in
theorem gX8_dry_X8_goPlan : GoodIn wsX8_dry (wsV RX8 187 RX8 yX8_goPlan wsX8_goPlan) := goodIn_app (goodIn_of _ (by decide +kernel)) ggX8_dry_X8_goPlan
set_option maxRecDepth 20000 in
theorem ggX8_dry_X8_tens : GoodIn wsX8_dry wsX8_tens := goodIn_r _ [87, 74] (by decide +kernel) (by decide +kernel)
set_option maxRecDepth 20000 in
theorem gX8_dry_X8_tens : GoodIn wsX8_dry (va_wsS RX8 191 yX8_tens wsX8_tens) := goodIn_app (goodIn_of _ (by decide +kernel)) ggX8_dry_X8_tens
set_option maxRecDepth 20000 in
theorem ggX8_dry_X8_told : GoodIn wsX8_dry wsX8_told := goodIn_r _ [90] (by decide +kernel) (by decide +kernel)
set_option maxRecDepth 20000 in
theorem gX8_dry_X8_told : GoodIn wsX8_dry (va_wsS RX8 195 yX8_told wsX8_told) := goodIn_app (goodIn_of _ (by decide +kernel)) ggX8_dry_X8_told
theorem dX8_dry_0 : decode cX8_dry 0 = .ok (.aload_n 0, 1) := by decide +kernel
theorem dX8_dry_1 : decode cX8_dry 1 = .ok (.iload_n 1, 1) := by decide +kernel
theorem dX8_dry_2 : decode cX8_dry 2 = .ok (.iload_n 2, 1) := by decide +kernel
theorem dX8_dry_3 : decode cX8_dry 3 = .ok (.iload_n 3, 1) := by decide +kernel
theorem dX8_dry_4 : decode cX8_dry 4 = .ok (.iload 4, 2) := by decide +kernel
theorem dX8_dry_6 : decode cX8_dry 6 = .ok (.iload 5, 2) := by decide +kernel
theorem dX8_dry_8 : decode cX8_dry 8 = .ok (.i2l, 1) := by decide +kernel
theorem dX8_dry_9 : decode cX8_dry 9 = .ok (.lconst 0, 1) := by decide +kernel
theorem dX8_dry_10 : decode cX8_dry 10 = .ok (.lconst 1, 1) := by decide +kernel
theorem dX8_dry_11 : decode cX8_dry 11 = .ok (.invokestatic 78, 3) := by decide +kernel
theorem dX8_dry_14 : decode cX8_dry 14 = .ok (.invokevirtual 183, 3) := by decide +kernel
theorem dX8_dry_17 : decode cX8_dry 17 = .ok (.ifCond .ge 7, 3) := by decide +kernel
theorem dX8_dry_20 : decode cX8_dry 20 = .ok (.invokestatic 71, 3) := by decide +kernel
theorem dX8_dry_23 : decode cX8_dry 23 = .ok (.lreturn, 1) := by decide +kernel
theorem dX8_dry_24 : decode cX8_dry 24 = .ok (.aload_n 0, 1) := by decide +kernel
theorem dX8_dry_25 : decode cX8_dry 25 = .ok (.bipush 60, 2) := by decide +kernel
theorem dX8_dry_27 : decode cX8_dry 27 = .ok (.iload_n 1, 1) := by decide +kernel
theorem dX8_dry_28 : decode cX8_dry 28 = .ok (.imul, 1) := by decide +kernel
theorem dX8_dry_29 : decode cX8_dry 29 = .ok (.iload_n 3, 1) := by decide +kernel
theorem dX8_dry_30 : decode cX8_dry 30 = .ok (.iadd, 1) := by decide +kernel
theorem dX8_dry_31 : decode cX8_dry 31 = .ok (.iload 4, 2) := by decide +kernel
theorem dX8_dry_33 : decode cX8_dry 33 = .ok (.invokevirtual 187, 3) := by decide +kernel
theorem dX8_dry_36 : decode cX8_dry 36 = .ok (.aload_n 0, 1) := by decide +kernel
theorem dX8_dry_37 : decode cX8_dry 37 = .ok (.getfield 153, 3) := by decide +kernel
theorem dX8_dry_40 : decode cX8_dry 40 = .ok (.ifCond .lt 9, 3) := by decide +kernel
theorem dX8_dry_43 : decode cX8_dry 43 = .ok (.invokestatic 71, 3) := by decide +kernel
theorem dX8_dry_46 : decode cX8_dry 46 = .ok (.goto 17, 3) := by decide +kernel
theorem dX8_dry_49 : decode cX8_dry 49 = .ok (.aload_n 0, 1) := by decide +kernel
theorem dX8_dry_50 : decode cX8_dry 50 = .ok (.getfield 156, 3) := by decide +kernel
theorem dX8_dry_53 : decode cX8_dry 53 = .ok (.iload 4, 2) := by decide +kernel
theorem dX8_dry_55 : decode cX8_dry 55 = .ok (.invokestatic 191, 3) := by decide +kernel
theorem dX8_dry_58 : decode cX8_dry 58 = .ok (.iload 5, 2) := by decide +kernel
theorem dX8_dry_60 : decode cX8_dry 60 = .ok (.invokestatic 195, 3) := by decide +kernel
theorem dX8_dry_63 : decode cX8_dry 63 = .ok (.lreturn, 1) := by decide +kernel
theorem dX8_placeOf_0 : decode cX8_placeOf 0 = .ok (.bipush 64, 2) := by decide +kernel
theorem dX8_placeOf_2 : decode cX8_placeOf 2 = .ok (.iload_n 0, 1) := by decide +kernel
theorem dX8_placeOf_3 : decode cX8_placeOf 3 = .ok (.imul, 1) := by decide +kernel
theorem dX8_placeOf_4 : decode cX8_placeOf 4 = .ok (.iconst 4, 1) := by decide +kernel
theorem dX8_placeOf_5 : decode cX8_placeOf 5 = .ok (.iload_n 1, 1) := by decide +kernel
theorem dX8_placeOf_6 : decode cX8_placeOf 6 = .ok (.imul, 1) := by decide +kernel
theorem dX8_placeOf_7 : decode cX8_placeOf 7 = .ok (.iadd, 1) := by decide +kernel
theorem dX8_placeOf_8 : decode cX8_placeOf 8 = .ok (.iload_n 2, 1) := by decide +kernel
theorem dX8_placeOf_9 : decode cX8_placeOf 9 = .ok (.iadd, 1) := by decide +kernel
theorem dX8_placeOf_10 : decode cX8_placeOf 10 = .ok (.ireturn, 1) := by decide +kernel
set_option maxRecDepth 20000 in
theorem ggX8_bestBy_X8_canAct : GoodIn wsX8_bestBy wsX8_canAct := goodIn_r _ [7, 8, 9, 10, 11, 12, 6, 13, 14, 15, 16, 17, 31, 32, 33, 34, 35, 36, 37, 38, 39, 40, 41, 42, 43, 44, 45, 46, 47, 48, 49, 50, 51, 52, 53, 54, 55, 56, 57, 58, 59, 60] (by decide +kernel) (by decide +kernel)
set_option maxRecDepth 20000 in
theorem gX8_bestBy_X8_canAct : GoodIn wsX8_bestBy (wsV RX8 169 RX8 yX8_canAct wsX8_canAct) := goodIn_app (goodIn_of _ (by decide +kernel)) ggX8_bestBy_X8_canAct
set_option maxRecDepth 20000 in
theorem ggX8_bestBy_X8_paceBy : GoodIn wsX8_bestBy wsX8_paceBy := goodIn_r _ [13] (by decide +kernel) (by decide +kernel)
set_option maxRecDepth 20000 in
theorem gX8_bestBy_X8_paceBy : GoodIn wsX8_bestBy (va_wsS RX8 141 yX8_paceBy wsX8_paceBy) := goodIn_app (goodIn_of _ (by decide +kernel)) ggX8_bestBy_X8_paceBy
set_option maxRecDepth 20000 in
theorem ggX8_bestBy_X8_staysBy : GoodIn wsX8_bestBy wsX8_staysBy := goodIn_r _ [21, 22, 23, 24, 6, 25, 26, 27, 9, 31, 32, 33, 34, 35, 36, 37, 38, 39, 40, 41, 42, 43, 44, 45, 46, 47, 48, 49, 50, 51, 52, 53, 54, 55, 56, 57, 58, 59, 60] (by decide +kernel) (by decide +kernel)
set_option maxRecDepth 20000 in
theorem gX8_bestBy_X8_staysBy : GoodIn wsX8_bestBy (wsV RX8 163 RX8 yX8_staysBy wsX8_staysBy) := goodIn_app (goodIn_of _ (by decide +kernel)) ggX8_bestBy_X8_staysBy
set_option maxRecDepth 20000 in
theorem ggX8_bestBy_X8_cellBy : GoodIn wsX8_bestBy wsX8_cellBy := goodIn_r _ [17, 8, 31, 32, 33, 34, 35, 36, 37, 38, 39, 40, 41, 42, 43, 44, 45, 46, 47, 48, 49, 50, 51, 52, 53, 54, 55, 56, 57, 58, 59, 60] (by decide +kernel) (by decide +kernel)
set_option maxRecDepth 20000 in
theorem gX8_bestBy_X8_cellBy : GoodIn wsX8_bestBy (wsV RX8 144 RX8 yX8_cellBy wsX8_cellBy) := goodIn_app (goodIn_of _ (by decide +kernel)) ggX8_bestBy_X8_cellBy
set_option maxRecDepth 20000 in
theorem ggX8_bestBy_X8_placeOf : GoodIn wsX8_bestBy wsX8_placeOf := goodIn_r _ [30] (by decide +kernel) (by decide +kernel)
set_option maxRecDepth 20000 in
theorem gX8_bestBy_X8_placeOf : GoodIn wsX8_bestBy (va_wsS RX8 199 yX8_placeOf wsX8_placeOf) := goodIn_app (goodIn_of _ (by decide +kernel)) ggX8_bestBy_X8_placeOf
theorem dX8_bestBy_0 : decode cX8_bestBy 0 = .ok (.aload_n 0, 1) := by decide +kernel
theorem dX8_bestBy_1 : decode cX8_bestBy 1 = .ok (.iload_n 1, 1) := by decide +kernel
theorem dX8_bestBy_2 : decode cX8_bestBy 2 = .ok (.iload_n 3, 1) := by decide +kernel
theorem dX8_bestBy_3 : decode cX8_bestBy 3 = .ok (.iload 4, 2) := by decide +kernel
theorem dX8_bestBy_5 : decode cX8_bestBy 5 = .ok (.invokevirtual 169, 3) := by decide +kernel
theorem dX8_bestBy_8 : decode cX8_bestBy 8 = .ok (.ifCond .ne 5, 3) := by decide +kernel
theorem dX8_bestBy_11 : decode cX8_bestBy 11 = .ok (.lconst 0, 1) := by decide +kernel
theorem dX8_bestBy_12 : decode cX8_bestBy 12 = .ok (.lreturn, 1) := by decide +kernel
theorem dX8_bestBy_13 : decode cX8_bestBy 13 = .ok (.iload_n 1, 1) := by decide +kernel
theorem dX8_bestBy_14 : decode cX8_bestBy 14 = .ok (.iload 4, 2) := by decide +kernel
theorem dX8_bestBy_16 : decode cX8_bestBy 16 = .ok (.invokestatic 141, 3) := by decide +kernel
theorem dX8_bestBy_19 : decode cX8_bestBy 19 = .ok (.istore 5, 2) := by decide +kernel
theorem dX8_bestBy_21 : decode cX8_bestBy 21 = .ok (.ldc2_w 65, 3) := by decide +kernel
theorem dX8_bestBy_24 : decode cX8_bestBy 24 = .ok (.aload_n 0, 1) := by decide +kernel
theorem dX8_bestBy_25 : decode cX8_bestBy 25 = .ok (.iload_n 1, 1) := by decide +kernel
theorem dX8_bestBy_26 : decode cX8_bestBy 26 = .ok (.iload_n 3, 1) := by decide +kernel
theorem dX8_bestBy_27 : decode cX8_bestBy 27 = .ok (.invokevirtual 163, 3) := by decide +kernel
theorem dX8_bestBy_30 : decode cX8_bestBy 30 = .ok (.i2l, 1) := by decide +kernel
theorem dX8_bestBy_31 : decode cX8_bestBy 31 = .ok (.lsub, 1) := by decide +kernel
theorem dX8_bestBy_32 : decode cX8_bestBy 32 = .ok (.aload_n 0, 1) := by decide +kernel
theorem dX8_bestBy_33 : decode cX8_bestBy 33 = .ok (.getfield 34, 3) := by decide +kernel
theorem dX8_bestBy_36 : decode cX8_bestBy 36 = .ok (.iload_n 2, 1) := by decide +kernel
theorem dX8_bestBy_37 : decode cX8_bestBy 37 = .ok (.iconst 1, 1) := by decide +kernel
theorem dX8_bestBy_38 : decode cX8_bestBy 38 = .ok (.isub, 1) := by decide +kernel
theorem dX8_bestBy_39 : decode cX8_bestBy 39 = .ok (.aload_n 0, 1) := by decide +kernel
theorem dX8_bestBy_40 : decode cX8_bestBy 40 = .ok (.iload_n 3, 1) := by decide +kernel
theorem dX8_bestBy_41 : decode cX8_bestBy 41 = .ok (.iload 5, 2) := by decide +kernel
theorem dX8_bestBy_43 : decode cX8_bestBy 43 = .ok (.invokevirtual 144, 3) := by decide +kernel
theorem dX8_bestBy_46 : decode cX8_bestBy 46 = .ok (.iload 5, 2) := by decide +kernel
theorem dX8_bestBy_48 : decode cX8_bestBy 48 = .ok (.invokestatic 199, 3) := by decide +kernel
theorem dX8_bestBy_51 : decode cX8_bestBy 51 = .ok (.laload, 1) := by decide +kernel
theorem dX8_bestBy_52 : decode cX8_bestBy 52 = .ok (.lmul, 1) := by decide +kernel
theorem dX8_bestBy_53 : decode cX8_bestBy 53 = .ok (.lreturn, 1) := by decide +kernel
set_option maxRecDepth 20000 in
theorem ggX8_layBest_X8_placeOf : GoodIn wsX8_layBest wsX8_placeOf := goodIn_r _ [6] (by decide +kernel) (by decide +kernel)
set_option maxRecDepth 20000 in
theorem gX8_layBest_X8_placeOf : GoodIn wsX8_layBest (va_wsS RX8 199 yX8_placeOf wsX8_placeOf) := goodIn_app (goodIn_of _ (by decide +kernel)) ggX8_layBest_X8_placeOf
set_option maxRecDepth 20000 in
theorem ggX8_layBest_X8_bestBy : GoodIn wsX8_layBest wsX8_bestBy := goodIn_r _ [10, 11, 1, 12, 13, 14, 5, 15, 2, 16, 17, 18, 19, 20, 21, 22, 23, 24, 25, 26, 27, 28, 29, 30, 31, 32, 33, 34, 3, 4, 6, 35, 36, 37, 38, 39, 40, 41, 42, 43, 44, 45, 46, 47, 48, 49, 50, 51, 52, 53, 54, 55, 56, 57, 58, 59, 60, 61, 62, 63, 64] (by decide +kernel) (by decide +kernel)
set_option maxRecDepth 20000 in
theorem gX8_layBest_X8_bestBy : GoodIn wsX8_layBest (wsV RX8 202 RX8 yX8_bestBy wsX8_bestBy) := goodIn_app (goodIn_of _ (by decide +kernel)) ggX8_layBest_X8_bestBy
theorem dX8_layBest_0 : decode cX8_layBest 0 = .ok (.iconst 0, 1) := by decide +kernel
theorem dX8_layBest_1 : decode cX8_layBest 1 = .ok (.istore_n 1, 1) := by decide +kernel
theorem dX8_layBest_2 : decode cX8_layBest 2 = .ok (.iload_n 1, 1) := by decide +kernel
theorem dX8_layBest_3 : decode cX8_layBest 3 = .ok (.sipush 832, 3) := by decide +kernel
theorem dX8_layBest_6 : decode cX8_layBest 6 = .ok (.if_icmp .ge 16, 3) := by decide +kernel
theorem dX8_layBest_9 : decode cX8_layBest 9 = .ok (.aload_n 0, 1) := by decide +kernel
theorem dX8_layBest_10 : decode cX8_layBest 10 = .ok (.getfield 34, 3) := by decide +kernel
theorem dX8_layBest_13 : decode cX8_layBest 13 = .ok (.iload_n 1, 1) := by decide +kernel
theorem dX8_layBest_14 : decode cX8_layBest 14 = .ok (.lconst 0, 1) := by decide +kernel
theorem dX8_layBest_15 : decode cX8_layBest 15 = .ok (.lastore, 1) := by decide +kernel
theorem dX8_layBest_16 : decode cX8_layBest 16 = .ok (.iinc 1 1, 3) := by decide +kernel
theorem dX8_layBest_19 : decode cX8_layBest 19 = .ok (.goto (-17), 3) := by decide +kernel
theorem dX8_layBest_22 : decode cX8_layBest 22 = .ok (.iconst 0, 1) := by decide +kernel
theorem dX8_layBest_23 : decode cX8_layBest 23 = .ok (.istore_n 1, 1) := by decide +kernel
theorem dX8_layBest_24 : decode cX8_layBest 24 = .ok (.iload_n 1, 1) := by decide +kernel
theorem dX8_layBest_25 : decode cX8_layBest 25 = .ok (.iconst 4, 1) := by decide +kernel
theorem dX8_layBest_26 : decode cX8_layBest 26 = .ok (.if_icmp .ge 26, 3) := by decide +kernel
theorem dX8_layBest_29 : decode cX8_layBest 29 = .ok (.aload_n 0, 1) := by decide +kernel
theorem dX8_layBest_30 : decode cX8_layBest 30 = .ok (.getfield 34, 3) := by decide +kernel
theorem dX8_layBest_33 : decode cX8_layBest 33 = .ok (.iconst 0, 1) := by decide +kernel
theorem dX8_layBest_34 : decode cX8_layBest 34 = .ok (.aload_n 0, 1) := by decide +kernel
theorem dX8_layBest_35 : decode cX8_layBest 35 = .ok (.getfield 75, 3) := by decide +kernel
theorem dX8_layBest_38 : decode cX8_layBest 38 = .ok (.iconst 1, 1) := by decide +kernel
theorem dX8_layBest_39 : decode cX8_layBest 39 = .ok (.isub, 1) := by decide +kernel
theorem dX8_layBest_40 : decode cX8_layBest 40 = .ok (.iload_n 1, 1) := by decide +kernel
theorem dX8_layBest_41 : decode cX8_layBest 41 = .ok (.invokestatic 199, 3) := by decide +kernel
theorem dX8_layBest_44 : decode cX8_layBest 44 = .ok (.lconst 1, 1) := by decide +kernel
theorem dX8_layBest_45 : decode cX8_layBest 45 = .ok (.lastore, 1) := by decide +kernel
theorem dX8_layBest_46 : decode cX8_layBest 46 = .ok (.iinc 1 1, 3) := by decide +kernel
theorem dX8_layBest_49 : decode cX8_layBest 49 = .ok (.goto (-25), 3) := by decide +kernel
theorem dX8_layBest_52 : decode cX8_layBest 52 = .ok (.iconst 1, 1) := by decide +kernel
theorem dX8_layBest_53 : decode cX8_layBest 53 = .ok (.istore_n 1, 1) := by decide +kernel
theorem dX8_layBest_54 : decode cX8_layBest 54 = .ok (.iload_n 1, 1) := by decide +kernel
theorem dX8_layBest_55 : decode cX8_layBest 55 = .ok (.bipush 12, 2) := by decide +kernel
theorem dX8_layBest_57 : decode cX8_layBest 57 = .ok (.if_icmp .gt 99, 3) := by decide +kernel
theorem dX8_layBest_60 : decode cX8_layBest 60 = .ok (.iconst 0, 1) := by decide +kernel
theorem dX8_layBest_61 : decode cX8_layBest 61 = .ok (.istore_n 2, 1) := by decide +kernel
theorem dX8_layBest_62 : decode cX8_layBest 62 = .ok (.iload_n 2, 1) := by decide +kernel
theorem dX8_layBest_63 : decode cX8_layBest 63 = .ok (.aload_n 0, 1) := by decide +kernel
theorem dX8_layBest_64 : decode cX8_layBest 64 = .ok (.getfield 75, 3) := by decide +kernel
theorem dX8_layBest_67 : decode cX8_layBest 67 = .ok (.iconst 1, 1) := by decide +kernel
theorem dX8_layBest_68 : decode cX8_layBest 68 = .ok (.isub, 1) := by decide +kernel
theorem dX8_layBest_69 : decode cX8_layBest 69 = .ok (.if_icmp .ge 81, 3) := by decide +kernel
theorem dX8_layBest_72 : decode cX8_layBest 72 = .ok (.iconst 0, 1) := by decide +kernel
theorem dX8_layBest_73 : decode cX8_layBest 73 = .ok (.istore_n 3, 1) := by decide +kernel
theorem dX8_layBest_74 : decode cX8_layBest 74 = .ok (.iload_n 3, 1) := by decide +kernel
theorem dX8_layBest_75 : decode cX8_layBest 75 = .ok (.iconst 4, 1) := by decide +kernel
theorem dX8_layBest_76 : decode cX8_layBest 76 = .ok (.if_icmp .ge 68, 3) := by decide +kernel
theorem dX8_layBest_79 : decode cX8_layBest 79 = .ok (.lconst 0, 1) := by decide +kernel
theorem dX8_layBest_80 : decode cX8_layBest 80 = .ok (.lstore 4, 2) := by decide +kernel
theorem dX8_layBest_82 : decode cX8_layBest 82 = .ok (.iconst 0, 1) := by decide +kernel
theorem dX8_layBest_83 : decode cX8_layBest 83 = .ok (.istore 6, 2) := by decide +kernel
theorem dX8_layBest_85 : decode cX8_layBest 85 = .ok (.iload 6, 2) := by decide +kernel
theorem dX8_layBest_87 : decode cX8_layBest 87 = .ok (.iconst 4, 1) := by decide +kernel
theorem dX8_layBest_88 : decode cX8_layBest 88 = .ok (.if_icmp .ge 37, 3) := by decide +kernel
theorem dX8_layBest_91 : decode cX8_layBest 91 = .ok (.aload_n 0, 1) := by decide +kernel
theorem dX8_layBest_92 : decode cX8_layBest 92 = .ok (.iload 6, 2) := by decide +kernel
theorem dX8_layBest_94 : decode cX8_layBest 94 = .ok (.iload_n 1, 1) := by decide +kernel
theorem dX8_layBest_95 : decode cX8_layBest 95 = .ok (.iload_n 2, 1) := by decide +kernel
theorem dX8_layBest_96 : decode cX8_layBest 96 = .ok (.iload_n 3, 1) := by decide +kernel
theorem dX8_layBest_97 : decode cX8_layBest 97 = .ok (.invokevirtual 202, 3) := by decide +kernel
theorem dX8_layBest_100 : decode cX8_layBest 100 = .ok (.lstore 7, 2) := by decide +kernel
theorem dX8_layBest_102 : decode cX8_layBest 102 = .ok (.lload 7, 2) := by decide +kernel
theorem dX8_layBest_104 : decode cX8_layBest 104 = .ok (.lload 4, 2) := by decide +kernel
theorem dX8_layBest_106 : decode cX8_layBest 106 = .ok (.lcmp, 1) := by decide +kernel
theorem dX8_layBest_107 : decode cX8_layBest 107 = .ok (.ifCond .le 8, 3) := by decide +kernel
theorem dX8_layBest_110 : decode cX8_layBest 110 = .ok (.lload 7, 2) := by decide +kernel
theorem dX8_layBest_112 : decode cX8_layBest 112 = .ok (.goto 5, 3) := by decide +kernel
theorem dX8_layBest_115 : decode cX8_layBest 115 = .ok (.lload 4, 2) := by decide +kernel
theorem dX8_layBest_117 : decode cX8_layBest 117 = .ok (.lstore 4, 2) := by decide +kernel
theorem dX8_layBest_119 : decode cX8_layBest 119 = .ok (.iinc 6 1, 3) := by decide +kernel
theorem dX8_layBest_122 : decode cX8_layBest 122 = .ok (.goto (-37), 3) := by decide +kernel
theorem dX8_layBest_125 : decode cX8_layBest 125 = .ok (.aload_n 0, 1) := by decide +kernel
theorem dX8_layBest_126 : decode cX8_layBest 126 = .ok (.getfield 34, 3) := by decide +kernel
theorem dX8_layBest_129 : decode cX8_layBest 129 = .ok (.iload_n 1, 1) := by decide +kernel
theorem dX8_layBest_130 : decode cX8_layBest 130 = .ok (.iload_n 2, 1) := by decide +kernel
theorem dX8_layBest_131 : decode cX8_layBest 131 = .ok (.iload_n 3, 1) := by decide +kernel
theorem dX8_layBest_132 : decode cX8_layBest 132 = .ok (.invokestatic 199, 3) := by decide +kernel
theorem dX8_layBest_135 : decode cX8_layBest 135 = .ok (.lload 4, 2) := by decide +kernel
theorem dX8_layBest_137 : decode cX8_layBest 137 = .ok (.lastore, 1) := by decide +kernel
theorem dX8_layBest_138 : decode cX8_layBest 138 = .ok (.iinc 3 1, 3) := by decide +kernel
theorem dX8_layBest_141 : decode cX8_layBest 141 = .ok (.goto (-67), 3) := by decide +kernel
theorem dX8_layBest_144 : decode cX8_layBest 144 = .ok (.iinc 2 1, 3) := by decide +kernel
theorem dX8_layBest_147 : decode cX8_layBest 147 = .ok (.goto (-85), 3) := by decide +kernel
theorem dX8_layBest_150 : decode cX8_layBest 150 = .ok (.iinc 1 1, 3) := by decide +kernel
theorem dX8_layBest_153 : decode cX8_layBest 153 = .ok (.goto (-99), 3) := by decide +kernel
theorem dX8_layBest_156 : decode cX8_layBest 156 = .ok (.return_, 1) := by decide +kernel
set_option maxRecDepth 20000 in
theorem ggX8_goAll_X8_canAct : GoodIn wsX8_goAll wsX8_canAct := goodIn_r _ [8, 3, 9, 10, 11, 12, 7, 13, 14, 15, 16, 17, 18, 19, 20, 21, 22, 23, 24, 25, 26, 27, 28, 29, 30, 31, 32, 33, 34, 35, 36, 37, 38, 39, 40, 41, 42, 43, 44, 45, 46, 47] (by decide +kernel) (by decide +kernel)
set_option maxRecDepth 20000 in
theorem gX8_goAll_X8_canAct : GoodIn wsX8_goAll (wsV RX8 169 RX8 yX8_canAct wsX8_canAct) := goodIn_app (goodIn_of _ (by decide +kernel)) ggX8_goAll_X8_canAct
set_option maxRecDepth 20000 in
theorem ggX8_goAll_X8_paceBy : GoodIn wsX8_goAll wsX8_paceBy := goodIn_r _ [13] (by decide +kernel) (by decide +kernel)
set_option maxRecDepth 20000 in
theorem gX8_goAll_X8_paceBy : GoodIn wsX8_goAll (va_wsS RX8 141 yX8_paceBy wsX8_paceBy) := goodIn_app (goodIn_of _ (by decide +kernel)) ggX8_goAll_X8_paceBy
set_option maxRecDepth 20000 in
theorem ggX8_goAll_X8_cellBy : GoodIn wsX8_goAll wsX8_cellBy := goodIn_r _ [17, 3, 18, 19, 20, 21, 22, 23, 24, 25, 26, 27, 28, 29, 30, 31, 32, 33, 34, 35, 36, 37, 38, 39, 40, 41, 42, 43, 44, 45, 46, 47] (by decide +kernel) (by decide +kernel)
set_option maxRecDepth 20000 in
theorem gX8_goAll_X8_cellBy : GoodIn wsX8_goAll (wsV RX8 144 RX8 yX8_cellBy wsX8_cellBy) := goodIn_app (goodIn_of _ (by decide +kernel)) ggX8_goAll_X8_cellBy
theorem dX8_goAll_0 : decode cX8_goAll 0 = .ok (.iconst 0, 1) := by decide +kernel
theorem dX8_goAll_1 : decode cX8_goAll 1 = .ok (.istore_n 1, 1) := by decide +kernel
theorem dX8_goAll_2 : decode cX8_goAll 2 = .ok (.iconst 0, 1) := by decide +kernel
theorem dX8_goAll_3 : decode cX8_goAll 3 = .ok (.istore_n 2, 1) := by decide +kernel
theorem dX8_goAll_4 : decode cX8_goAll 4 = .ok (.iload_n 2, 1) := by decide +kernel
theorem dX8_goAll_5 : decode cX8_goAll 5 = .ok (.bipush 64, 2) := by decide +kernel
theorem dX8_goAll_7 : decode cX8_goAll 7 = .ok (.if_icmp .ge 21, 3) := by decide +kernel
theorem dX8_goAll_10 : decode cX8_goAll 10 = .ok (.aload_n 0, 1) := by decide +kernel
theorem dX8_goAll_11 : decode cX8_goAll 11 = .ok (.getfield 42, 3) := by decide +kernel
theorem dX8_goAll_14 : decode cX8_goAll 14 = .ok (.iload_n 2, 1) := by decide +kernel
theorem dX8_goAll_15 : decode cX8_goAll 15 = .ok (.aload_n 0, 1) := by decide +kernel
theorem dX8_goAll_16 : decode cX8_goAll 16 = .ok (.getfield 38, 3) := by decide +kernel
theorem dX8_goAll_19 : decode cX8_goAll 19 = .ok (.iload_n 2, 1) := by decide +kernel
theorem dX8_goAll_20 : decode cX8_goAll 20 = .ok (.baload, 1) := by decide +kernel
theorem dX8_goAll_21 : decode cX8_goAll 21 = .ok (.bastore, 1) := by decide +kernel
theorem dX8_goAll_22 : decode cX8_goAll 22 = .ok (.iinc 2 1, 3) := by decide +kernel
theorem dX8_goAll_25 : decode cX8_goAll 25 = .ok (.goto (-21), 3) := by decide +kernel
theorem dX8_goAll_28 : decode cX8_goAll 28 = .ok (.iconst 0, 1) := by decide +kernel
theorem dX8_goAll_29 : decode cX8_goAll 29 = .ok (.istore_n 2, 1) := by decide +kernel
theorem dX8_goAll_30 : decode cX8_goAll 30 = .ok (.iload_n 2, 1) := by decide +kernel
theorem dX8_goAll_31 : decode cX8_goAll 31 = .ok (.iconst 4, 1) := by decide +kernel
theorem dX8_goAll_32 : decode cX8_goAll 32 = .ok (.aload_n 0, 1) := by decide +kernel
theorem dX8_goAll_33 : decode cX8_goAll 33 = .ok (.getfield 75, 3) := by decide +kernel
theorem dX8_goAll_36 : decode cX8_goAll 36 = .ok (.imul, 1) := by decide +kernel
theorem dX8_goAll_37 : decode cX8_goAll 37 = .ok (.if_icmp .ge 98, 3) := by decide +kernel
theorem dX8_goAll_40 : decode cX8_goAll 40 = .ok (.iconst 0, 1) := by decide +kernel
theorem dX8_goAll_41 : decode cX8_goAll 41 = .ok (.istore_n 3, 1) := by decide +kernel
theorem dX8_goAll_42 : decode cX8_goAll 42 = .ok (.iload_n 3, 1) := by decide +kernel
theorem dX8_goAll_43 : decode cX8_goAll 43 = .ok (.iconst 4, 1) := by decide +kernel
theorem dX8_goAll_44 : decode cX8_goAll 44 = .ok (.if_icmp .ge 85, 3) := by decide +kernel
theorem dX8_goAll_47 : decode cX8_goAll 47 = .ok (.aload_n 0, 1) := by decide +kernel
theorem dX8_goAll_48 : decode cX8_goAll 48 = .ok (.getfield 38, 3) := by decide +kernel
theorem dX8_goAll_51 : decode cX8_goAll 51 = .ok (.iload_n 2, 1) := by decide +kernel
theorem dX8_goAll_52 : decode cX8_goAll 52 = .ok (.baload, 1) := by decide +kernel
theorem dX8_goAll_53 : decode cX8_goAll 53 = .ok (.ifCond .eq 76, 3) := by decide +kernel
theorem dX8_goAll_56 : decode cX8_goAll 56 = .ok (.aload_n 0, 1) := by decide +kernel
theorem dX8_goAll_57 : decode cX8_goAll 57 = .ok (.iload_n 3, 1) := by decide +kernel
theorem dX8_goAll_58 : decode cX8_goAll 58 = .ok (.iload_n 2, 1) := by decide +kernel
theorem dX8_goAll_59 : decode cX8_goAll 59 = .ok (.iconst 4, 1) := by decide +kernel
theorem dX8_goAll_60 : decode cX8_goAll 60 = .ok (.idiv, 1) := by decide +kernel
theorem dX8_goAll_61 : decode cX8_goAll 61 = .ok (.iload_n 2, 1) := by decide +kernel
theorem dX8_goAll_62 : decode cX8_goAll 62 = .ok (.iconst 4, 1) := by decide +kernel
theorem dX8_goAll_63 : decode cX8_goAll 63 = .ok (.irem, 1) := by decide +kernel
theorem dX8_goAll_64 : decode cX8_goAll 64 = .ok (.invokevirtual 169, 3) := by decide +kernel
theorem dX8_goAll_67 : decode cX8_goAll 67 = .ok (.ifCond .eq 56, 3) := by decide +kernel
theorem dX8_goAll_70 : decode cX8_goAll 70 = .ok (.iload_n 3, 1) := by decide +kernel
theorem dX8_goAll_71 : decode cX8_goAll 71 = .ok (.iload_n 2, 1) := by decide +kernel
theorem dX8_goAll_72 : decode cX8_goAll 72 = .ok (.iconst 4, 1) := by decide +kernel
theorem dX8_goAll_73 : decode cX8_goAll 73 = .ok (.irem, 1) := by decide +kernel
theorem dX8_goAll_74 : decode cX8_goAll 74 = .ok (.invokestatic 141, 3) := by decide +kernel
theorem dX8_goAll_77 : decode cX8_goAll 77 = .ok (.istore 4, 2) := by decide +kernel
theorem dX8_goAll_79 : decode cX8_goAll 79 = .ok (.iconst 4, 1) := by decide +kernel
theorem dX8_goAll_80 : decode cX8_goAll 80 = .ok (.aload_n 0, 1) := by decide +kernel
theorem dX8_goAll_81 : decode cX8_goAll 81 = .ok (.iload_n 2, 1) := by decide +kernel
theorem dX8_goAll_82 : decode cX8_goAll 82 = .ok (.iconst 4, 1) := by decide +kernel
theorem dX8_goAll_83 : decode cX8_goAll 83 = .ok (.idiv, 1) := by decide +kernel
theorem dX8_goAll_84 : decode cX8_goAll 84 = .ok (.iload 4, 2) := by decide +kernel
theorem dX8_goAll_86 : decode cX8_goAll 86 = .ok (.invokevirtual 144, 3) := by decide +kernel
theorem dX8_goAll_89 : decode cX8_goAll 89 = .ok (.imul, 1) := by decide +kernel
theorem dX8_goAll_90 : decode cX8_goAll 90 = .ok (.iload 4, 2) := by decide +kernel
theorem dX8_goAll_92 : decode cX8_goAll 92 = .ok (.iadd, 1) := by decide +kernel
theorem dX8_goAll_93 : decode cX8_goAll 93 = .ok (.istore 5, 2) := by decide +kernel
theorem dX8_goAll_95 : decode cX8_goAll 95 = .ok (.iload_n 1, 1) := by decide +kernel
theorem dX8_goAll_96 : decode cX8_goAll 96 = .ok (.ifCond .ne 13, 3) := by decide +kernel
theorem dX8_goAll_99 : decode cX8_goAll 99 = .ok (.aload_n 0, 1) := by decide +kernel
theorem dX8_goAll_100 : decode cX8_goAll 100 = .ok (.getfield 42, 3) := by decide +kernel
theorem dX8_goAll_103 : decode cX8_goAll 103 = .ok (.iload 5, 2) := by decide +kernel
theorem dX8_goAll_105 : decode cX8_goAll 105 = .ok (.baload, 1) := by decide +kernel
theorem dX8_goAll_106 : decode cX8_goAll 106 = .ok (.ifCond .ne 7, 3) := by decide +kernel
theorem dX8_goAll_109 : decode cX8_goAll 109 = .ok (.iconst 1, 1) := by decide +kernel
theorem dX8_goAll_110 : decode cX8_goAll 110 = .ok (.goto 4, 3) := by decide +kernel
theorem dX8_goAll_113 : decode cX8_goAll 113 = .ok (.iconst 0, 1) := by decide +kernel
theorem dX8_goAll_114 : decode cX8_goAll 114 = .ok (.istore_n 1, 1) := by decide +kernel
theorem dX8_goAll_115 : decode cX8_goAll 115 = .ok (.aload_n 0, 1) := by decide +kernel
theorem dX8_goAll_116 : decode cX8_goAll 116 = .ok (.getfield 42, 3) := by decide +kernel
theorem dX8_goAll_119 : decode cX8_goAll 119 = .ok (.iload 5, 2) := by decide +kernel
theorem dX8_goAll_121 : decode cX8_goAll 121 = .ok (.iconst 1, 1) := by decide +kernel
theorem dX8_goAll_122 : decode cX8_goAll 122 = .ok (.bastore, 1) := by decide +kernel
theorem dX8_goAll_123 : decode cX8_goAll 123 = .ok (.iinc 3 1, 3) := by decide +kernel
theorem dX8_goAll_126 : decode cX8_goAll 126 = .ok (.goto (-84), 3) := by decide +kernel
theorem dX8_goAll_129 : decode cX8_goAll 129 = .ok (.iinc 2 1, 3) := by decide +kernel
theorem dX8_goAll_132 : decode cX8_goAll 132 = .ok (.goto (-102), 3) := by decide +kernel
theorem dX8_goAll_135 : decode cX8_goAll 135 = .ok (.iconst 0, 1) := by decide +kernel
theorem dX8_goAll_136 : decode cX8_goAll 136 = .ok (.istore_n 2, 1) := by decide +kernel
theorem dX8_goAll_137 : decode cX8_goAll 137 = .ok (.iload_n 2, 1) := by decide +kernel
theorem dX8_goAll_138 : decode cX8_goAll 138 = .ok (.bipush 64, 2) := by decide +kernel
theorem dX8_goAll_140 : decode cX8_goAll 140 = .ok (.if_icmp .ge 21, 3) := by decide +kernel
theorem dX8_goAll_143 : decode cX8_goAll 143 = .ok (.aload_n 0, 1) := by decide +kernel
theorem dX8_goAll_144 : decode cX8_goAll 144 = .ok (.getfield 38, 3) := by decide +kernel
theorem dX8_goAll_147 : decode cX8_goAll 147 = .ok (.iload_n 2, 1) := by decide +kernel
theorem dX8_goAll_148 : decode cX8_goAll 148 = .ok (.aload_n 0, 1) := by decide +kernel
theorem dX8_goAll_149 : decode cX8_goAll 149 = .ok (.getfield 42, 3) := by decide +kernel
theorem dX8_goAll_152 : decode cX8_goAll 152 = .ok (.iload_n 2, 1) := by decide +kernel
theorem dX8_goAll_153 : decode cX8_goAll 153 = .ok (.baload, 1) := by decide +kernel
theorem dX8_goAll_154 : decode cX8_goAll 154 = .ok (.bastore, 1) := by decide +kernel
theorem dX8_goAll_155 : decode cX8_goAll 155 = .ok (.iinc 2 1, 3) := by decide +kernel
theorem dX8_goAll_158 : decode cX8_goAll 158 = .ok (.goto (-21), 3) := by decide +kernel
theorem dX8_goAll_161 : decode cX8_goAll 161 = .ok (.iload_n 1, 1) := by decide +kernel
theorem dX8_goAll_162 : decode cX8_goAll 162 = .ok (.ireturn, 1) := by decide +kernel
theorem dX8_isThere_0 : decode cX8_isThere 0 = .ok (.iconst 0, 1) := by decide +kernel
theorem dX8_isThere_1 : decode cX8_isThere 1 = .ok (.istore_n 1, 1) := by decide +kernel
theorem dX8_isThere_2 : decode cX8_isThere 2 = .ok (.iconst 0, 1) := by decide +kernel
theorem dX8_isThere_3 : decode cX8_isThere 3 = .ok (.istore_n 2, 1) := by decide +kernel
theorem dX8_isThere_4 : decode cX8_isThere 4 = .ok (.iload_n 2, 1) := by decide +kernel
theorem dX8_isThere_5 : decode cX8_isThere 5 = .ok (.iconst 4, 1) := by decide +kernel
theorem dX8_isThere_6 : decode cX8_isThere 6 = .ok (.if_icmp .ge 37, 3) := by decide +kernel
theorem dX8_isThere_9 : decode cX8_isThere 9 = .ok (.iload_n 1, 1) := by decide +kernel
theorem dX8_isThere_10 : decode cX8_isThere 10 = .ok (.ifCond .ne 21, 3) := by decide +kernel
theorem dX8_isThere_13 : decode cX8_isThere 13 = .ok (.aload_n 0, 1) := by decide +kernel
theorem dX8_isThere_14 : decode cX8_isThere 14 = .ok (.getfield 38, 3) := by decide +kernel
theorem dX8_isThere_17 : decode cX8_isThere 17 = .ok (.iconst 4, 1) := by decide +kernel
theorem dX8_isThere_18 : decode cX8_isThere 18 = .ok (.aload_n 0, 1) := by decide +kernel
theorem dX8_isThere_19 : decode cX8_isThere 19 = .ok (.getfield 75, 3) := by decide +kernel
theorem dX8_isThere_22 : decode cX8_isThere 22 = .ok (.iconst 1, 1) := by decide +kernel
theorem dX8_isThere_23 : decode cX8_isThere 23 = .ok (.isub, 1) := by decide +kernel
theorem dX8_isThere_24 : decode cX8_isThere 24 = .ok (.imul, 1) := by decide +kernel
theorem dX8_isThere_25 : decode cX8_isThere 25 = .ok (.iload_n 2, 1) := by decide +kernel
theorem dX8_isThere_26 : decode cX8_isThere 26 = .ok (.iadd, 1) := by decide +kernel
theorem dX8_isThere_27 : decode cX8_isThere 27 = .ok (.baload, 1) := by decide +kernel
theorem dX8_isThere_28 : decode cX8_isThere 28 = .ok (.ifCond .eq 7, 3) := by decide +kernel
theorem dX8_isThere_31 : decode cX8_isThere 31 = .ok (.iconst 1, 1) := by decide +kernel
theorem dX8_isThere_32 : decode cX8_isThere 32 = .ok (.goto 4, 3) := by decide +kernel
theorem dX8_isThere_35 : decode cX8_isThere 35 = .ok (.iconst 0, 1) := by decide +kernel
theorem dX8_isThere_36 : decode cX8_isThere 36 = .ok (.istore_n 1, 1) := by decide +kernel
theorem dX8_isThere_37 : decode cX8_isThere 37 = .ok (.iinc 2 1, 3) := by decide +kernel
theorem dX8_isThere_40 : decode cX8_isThere 40 = .ok (.goto (-36), 3) := by decide +kernel
theorem dX8_isThere_43 : decode cX8_isThere 43 = .ok (.iload_n 1, 1) := by decide +kernel
theorem dX8_isThere_44 : decode cX8_isThere 44 = .ok (.ireturn, 1) := by decide +kernel
set_option maxRecDepth 20000 in
theorem ggX8_soonestNow_X8_isThere : GoodIn wsX8_soonestNow wsX8_isThere := goodIn_r _ [7, 1, 8, 27, 28, 29, 30, 31, 32, 33, 34, 35, 36, 37, 38, 39, 40, 41, 42, 43, 44, 45, 46, 47, 48, 49, 50, 51, 52, 53, 54, 55, 56] (by decide +kernel) (by decide +kernel)
set_option maxRecDepth 20000 in
theorem gX8_soonestNow_X8_isThere : GoodIn wsX8_soonestNow (wsV RX8 206 RX8 yX8_isThere wsX8_isThere) := goodIn_app (goodIn_of _ (by decide +kernel)) ggX8_soonestNow_X8_isThere
set_option maxRecDepth 20000 in
theorem ggX8_soonestNow_X8_goAll : GoodIn wsX8_soonestNow wsX8_goAll := goodIn_r _ [12, 13, 1, 8, 14, 15, 16, 6, 17, 18, 19, 20, 21, 22, 23, 24, 25, 26, 27, 28, 29, 30, 31, 32, 33, 34, 35, 36, 37, 38, 39, 40, 41, 42, 43, 44, 45, 46, 47, 48, 49, 50, 51, 52, 53, 54, 55, 56] (by decide +kernel) (by decide +kernel)
set_option maxRecDepth 20000 in
theorem gX8_soonestNow_X8_goAll : GoodIn wsX8_soonestNow (wsV RX8 210 RX8 yX8_goAll wsX8_goAll) := goodIn_app (goodIn_of _ (by decide +kernel)) ggX8_soonestNow_X8_goAll
theorem dX8_soonestNow_0 : decode cX8_soonestNow 0 = .ok (.iconst 0, 1) := by decide +kernel
theorem dX8_soonestNow_1 : decode cX8_soonestNow 1 = .ok (.istore_n 1, 1) := by decide +kernel
theorem dX8_soonestNow_2 : decode cX8_soonestNow 2 = .ok (.iload_n 1, 1) := by decide +kernel
theorem dX8_soonestNow_3 : decode cX8_soonestNow 3 = .ok (.bipush 64, 2) := by decide +kernel
theorem dX8_soonestNow_5 : decode cX8_soonestNow 5 = .ok (.if_icmp .ge 28, 3) := by decide +kernel
theorem dX8_soonestNow_8 : decode cX8_soonestNow 8 = .ok (.aload_n 0, 1) := by decide +kernel
theorem dX8_soonestNow_9 : decode cX8_soonestNow 9 = .ok (.getfield 38, 3) := by decide +kernel
theorem dX8_soonestNow_12 : decode cX8_soonestNow 12 = .ok (.iload_n 1, 1) := by decide +kernel
theorem dX8_soonestNow_13 : decode cX8_soonestNow 13 = .ok (.iload_n 1, 1) := by decide +kernel
theorem dX8_soonestNow_14 : decode cX8_soonestNow 14 = .ok (.aload_n 0, 1) := by decide +kernel
theorem dX8_soonestNow_15 : decode cX8_soonestNow 15 = .ok (.getfield 127, 3) := by decide +kernel
theorem dX8_soonestNow_18 : decode cX8_soonestNow 18 = .ok (.if_icmp .ne 7, 3) := by decide +kernel
theorem dX8_soonestNow_21 : decode cX8_soonestNow 21 = .ok (.iconst 1, 1) := by decide +kernel
theorem dX8_soonestNow_22 : decode cX8_soonestNow 22 = .ok (.goto 4, 3) := by decide +kernel
theorem dX8_soonestNow_25 : decode cX8_soonestNow 25 = .ok (.iconst 0, 1) := by decide +kernel
theorem dX8_soonestNow_26 : decode cX8_soonestNow 26 = .ok (.bastore, 1) := by decide +kernel
theorem dX8_soonestNow_27 : decode cX8_soonestNow 27 = .ok (.iinc 1 1, 3) := by decide +kernel
theorem dX8_soonestNow_30 : decode cX8_soonestNow 30 = .ok (.goto (-28), 3) := by decide +kernel
theorem dX8_soonestNow_33 : decode cX8_soonestNow 33 = .ok (.iconst 0, 1) := by decide +kernel
theorem dX8_soonestNow_34 : decode cX8_soonestNow 34 = .ok (.istore_n 1, 1) := by decide +kernel
theorem dX8_soonestNow_35 : decode cX8_soonestNow 35 = .ok (.iconst 1, 1) := by decide +kernel
theorem dX8_soonestNow_36 : decode cX8_soonestNow 36 = .ok (.istore_n 2, 1) := by decide +kernel
theorem dX8_soonestNow_37 : decode cX8_soonestNow 37 = .ok (.iload_n 2, 1) := by decide +kernel
theorem dX8_soonestNow_38 : decode cX8_soonestNow 38 = .ok (.ifCond .eq 21, 3) := by decide +kernel
theorem dX8_soonestNow_41 : decode cX8_soonestNow 41 = .ok (.aload_n 0, 1) := by decide +kernel
theorem dX8_soonestNow_42 : decode cX8_soonestNow 42 = .ok (.invokevirtual 206, 3) := by decide +kernel
theorem dX8_soonestNow_45 : decode cX8_soonestNow 45 = .ok (.ifCond .ne 14, 3) := by decide +kernel
theorem dX8_soonestNow_48 : decode cX8_soonestNow 48 = .ok (.aload_n 0, 1) := by decide +kernel
theorem dX8_soonestNow_49 : decode cX8_soonestNow 49 = .ok (.invokevirtual 210, 3) := by decide +kernel
theorem dX8_soonestNow_52 : decode cX8_soonestNow 52 = .ok (.istore_n 2, 1) := by decide +kernel
theorem dX8_soonestNow_53 : decode cX8_soonestNow 53 = .ok (.iinc 1 1, 3) := by decide +kernel
theorem dX8_soonestNow_56 : decode cX8_soonestNow 56 = .ok (.goto (-19), 3) := by decide +kernel
theorem dX8_soonestNow_59 : decode cX8_soonestNow 59 = .ok (.aload_n 0, 1) := by decide +kernel
theorem dX8_soonestNow_60 : decode cX8_soonestNow 60 = .ok (.invokevirtual 206, 3) := by decide +kernel
theorem dX8_soonestNow_63 : decode cX8_soonestNow 63 = .ok (.ifCond .eq 7, 3) := by decide +kernel
theorem dX8_soonestNow_66 : decode cX8_soonestNow 66 = .ok (.iload_n 1, 1) := by decide +kernel
theorem dX8_soonestNow_67 : decode cX8_soonestNow 67 = .ok (.goto 5, 3) := by decide +kernel
theorem dX8_soonestNow_70 : decode cX8_soonestNow 70 = .ok (.bipush (-9), 2) := by decide +kernel
theorem dX8_soonestNow_72 : decode cX8_soonestNow 72 = .ok (.ireturn, 1) := by decide +kernel
set_option maxRecDepth 20000 in
theorem ggX8_soonest_X8_soonestNow : GoodIn wsX8_soonest wsX8_soonestNow := goodIn_r _ [6, 7, 8, 9, 10, 11, 5, 12, 1, 13, 14, 15, 16, 17, 18, 19, 20, 21, 22, 23, 24, 25, 26, 27, 28, 29, 30, 31, 32, 33, 34, 35, 36, 37, 38, 39, 40, 41, 42, 43, 44, 45, 46, 47, 48, 49, 50, 51, 52, 53, 54, 55, 56, 57, 58, 59, 60] (by decide +kernel) (by decide +kernel)
set_option maxRecDepth 20000 in
theorem gX8_soonest_X8_soonestNow : GoodIn wsX8_soonest (wsV RX8 213 RX8 yX8_soonestNow wsX8_soonestNow) := goodIn_app (goodIn_of _ (by decide +kernel)) ggX8_soonest_X8_soonestNow
theorem dX8_soonest_0 : decode cX8_soonest 0 = .ok (.aload_n 0, 1) := by decide +kernel
theorem dX8_soonest_1 : decode cX8_soonest 1 = .ok (.getfield 75, 3) := by decide +kernel
theorem dX8_soonest_4 : decode cX8_soonest 4 = .ok (.ifCond .ne 8, 3) := by decide +kernel
theorem dX8_soonest_7 : decode cX8_soonest 7 = .ok (.bipush (-3), 2) := by decide +kernel
theorem dX8_soonest_9 : decode cX8_soonest 9 = .ok (.goto 7, 3) := by decide +kernel
theorem dX8_soonest_12 : decode cX8_soonest 12 = .ok (.aload_n 0, 1) := by decide +kernel
theorem dX8_soonest_13 : decode cX8_soonest 13 = .ok (.invokevirtual 213, 3) := by decide +kernel
theorem dX8_soonest_16 : decode cX8_soonest 16 = .ok (.ireturn, 1) := by decide +kernel
set_option maxRecDepth 20000 in
theorem ggX8_surestTurns_X8_layBest : GoodIn wsX8_surestTurns wsX8_layBest := goodIn_r _ [7, 1, 8, 9, 10, 6, 11, 12, 13, 14, 15, 16, 17, 18, 19, 20, 21, 22, 23, 24, 25, 26, 27, 28, 29, 30, 31, 32, 33, 34, 35, 36, 37, 38, 39, 43, 44, 45, 46, 47, 48, 49, 50, 51, 52, 53, 54, 55, 56, 57, 58, 59, 60, 61, 62, 63, 64, 65, 66, 67, 68, 69, 70, 71, 72] (by decide +kernel) (by decide +kernel)
set_option maxRecDepth 20000 in
theorem gX8_surestTurns_X8_layBest : GoodIn wsX8_surestTurns (wsV RX8 217 RX8 yX8_layBest wsX8_layBest) := goodIn_app (goodIn_of _ (by decide +kernel)) ggX8_surestTurns_X8_layBest
set_option maxRecDepth 20000 in
theorem ggX8_surestTurns_X8_placeOf : GoodIn wsX8_surestTurns wsX8_placeOf := goodIn_r _ [11] (by decide +kernel) (by decide +kernel)
set_option maxRecDepth 20000 in
theorem gX8_surestTurns_X8_placeOf : GoodIn wsX8_surestTurns (va_wsS RX8 199 yX8_placeOf wsX8_placeOf) := goodIn_app (goodIn_of _ (by decide +kernel)) ggX8_surestTurns_X8_placeOf
set_option maxRecDepth 20000 in
theorem ggX8_surestTurns_X8_tens : GoodIn wsX8_surestTurns wsX8_tens := goodIn_r _ [42, 16] (by decide +kernel) (by decide +kernel)
set_option maxRecDepth 20000 in
theorem gX8_surestTurns_X8_tens : GoodIn wsX8_surestTurns (va_wsS RX8 191 yX8_tens wsX8_tens) := goodIn_app (goodIn_of _ (by decide +kernel)) ggX8_surestTurns_X8_tens
theorem dX8_surestTurns_0 : decode cX8_surestTurns 0 = .ok (.aload_n 0, 1) := by decide +kernel
theorem dX8_surestTurns_1 : decode cX8_surestTurns 1 = .ok (.invokevirtual 217, 3) := by decide +kernel
theorem dX8_surestTurns_4 : decode cX8_surestTurns 4 = .ok (.bipush (-9), 2) := by decide +kernel
theorem dX8_surestTurns_6 : decode cX8_surestTurns 6 = .ok (.istore_n 2, 1) := by decide +kernel
theorem dX8_surestTurns_7 : decode cX8_surestTurns 7 = .ok (.lconst 0, 1) := by decide +kernel
theorem dX8_surestTurns_8 : decode cX8_surestTurns 8 = .ok (.lstore_n 3, 1) := by decide +kernel
theorem dX8_surestTurns_9 : decode cX8_surestTurns 9 = .ok (.iconst 1, 1) := by decide +kernel
theorem dX8_surestTurns_10 : decode cX8_surestTurns 10 = .ok (.istore 5, 2) := by decide +kernel
theorem dX8_surestTurns_12 : decode cX8_surestTurns 12 = .ok (.iload 5, 2) := by decide +kernel
theorem dX8_surestTurns_14 : decode cX8_surestTurns 14 = .ok (.iload_n 1, 1) := by decide +kernel
theorem dX8_surestTurns_15 : decode cX8_surestTurns 15 = .ok (.if_icmp .gt 63, 3) := by decide +kernel
theorem dX8_surestTurns_18 : decode cX8_surestTurns 18 = .ok (.aload_n 0, 1) := by decide +kernel
theorem dX8_surestTurns_19 : decode cX8_surestTurns 19 = .ok (.getfield 34, 3) := by decide +kernel
theorem dX8_surestTurns_22 : decode cX8_surestTurns 22 = .ok (.iload 5, 2) := by decide +kernel
theorem dX8_surestTurns_24 : decode cX8_surestTurns 24 = .ok (.iconst 0, 1) := by decide +kernel
theorem dX8_surestTurns_25 : decode cX8_surestTurns 25 = .ok (.aload_n 0, 1) := by decide +kernel
theorem dX8_surestTurns_26 : decode cX8_surestTurns 26 = .ok (.getfield 127, 3) := by decide +kernel
theorem dX8_surestTurns_29 : decode cX8_surestTurns 29 = .ok (.invokestatic 199, 3) := by decide +kernel
theorem dX8_surestTurns_32 : decode cX8_surestTurns 32 = .ok (.laload, 1) := by decide +kernel
theorem dX8_surestTurns_33 : decode cX8_surestTurns 33 = .ok (.bipush 12, 2) := by decide +kernel
theorem dX8_surestTurns_35 : decode cX8_surestTurns 35 = .ok (.iload 5, 2) := by decide +kernel
theorem dX8_surestTurns_37 : decode cX8_surestTurns 37 = .ok (.isub, 1) := by decide +kernel
theorem dX8_surestTurns_38 : decode cX8_surestTurns 38 = .ok (.invokestatic 191, 3) := by decide +kernel
theorem dX8_surestTurns_41 : decode cX8_surestTurns 41 = .ok (.lmul, 1) := by decide +kernel
theorem dX8_surestTurns_42 : decode cX8_surestTurns 42 = .ok (.lstore 6, 2) := by decide +kernel
theorem dX8_surestTurns_44 : decode cX8_surestTurns 44 = .ok (.lload 6, 2) := by decide +kernel
theorem dX8_surestTurns_46 : decode cX8_surestTurns 46 = .ok (.lload_n 3, 1) := by decide +kernel
theorem dX8_surestTurns_47 : decode cX8_surestTurns 47 = .ok (.lcmp, 1) := by decide +kernel
theorem dX8_surestTurns_48 : decode cX8_surestTurns 48 = .ok (.ifCond .le 8, 3) := by decide +kernel
theorem dX8_surestTurns_51 : decode cX8_surestTurns 51 = .ok (.iload 5, 2) := by decide +kernel
theorem dX8_surestTurns_53 : decode cX8_surestTurns 53 = .ok (.goto 4, 3) := by decide +kernel
theorem dX8_surestTurns_56 : decode cX8_surestTurns 56 = .ok (.iload_n 2, 1) := by decide +kernel
theorem dX8_surestTurns_57 : decode cX8_surestTurns 57 = .ok (.istore_n 2, 1) := by decide +kernel
theorem dX8_surestTurns_58 : decode cX8_surestTurns 58 = .ok (.lload 6, 2) := by decide +kernel
theorem dX8_surestTurns_60 : decode cX8_surestTurns 60 = .ok (.lload_n 3, 1) := by decide +kernel
theorem dX8_surestTurns_61 : decode cX8_surestTurns 61 = .ok (.lcmp, 1) := by decide +kernel
theorem dX8_surestTurns_62 : decode cX8_surestTurns 62 = .ok (.ifCond .le 8, 3) := by decide +kernel
theorem dX8_surestTurns_65 : decode cX8_surestTurns 65 = .ok (.lload 6, 2) := by decide +kernel
theorem dX8_surestTurns_67 : decode cX8_surestTurns 67 = .ok (.goto 4, 3) := by decide +kernel
theorem dX8_surestTurns_70 : decode cX8_surestTurns 70 = .ok (.lload_n 3, 1) := by decide +kernel
theorem dX8_surestTurns_71 : decode cX8_surestTurns 71 = .ok (.lstore_n 3, 1) := by decide +kernel
theorem dX8_surestTurns_72 : decode cX8_surestTurns 72 = .ok (.iinc 5 1, 3) := by decide +kernel
theorem dX8_surestTurns_75 : decode cX8_surestTurns 75 = .ok (.goto (-63), 3) := by decide +kernel
theorem dX8_surestTurns_78 : decode cX8_surestTurns 78 = .ok (.iload_n 2, 1) := by decide +kernel
theorem dX8_surestTurns_79 : decode cX8_surestTurns 79 = .ok (.ireturn, 1) := by decide +kernel
set_option maxRecDepth 20000 in
theorem ggX8_surest_X8_in : GoodIn wsX8_surest wsX8_in := goodIn_r _ [10] (by decide +kernel) (by decide +kernel)
set_option maxRecDepth 20000 in
theorem gX8_surest_X8_in : GoodIn wsX8_surest (va_wsS RX8 78 yX8_in wsX8_in) := goodIn_app (goodIn_of _ (by decide +kernel)) ggX8_surest_X8_in
set_option maxRecDepth 20000 in
theorem ggX8_surest_X8_surestTurns : GoodIn wsX8_surest wsX8_surestTurns := goodIn_r _ [14, 6, 5, 15, 16, 17, 9, 18, 4, 19, 20, 21, 22, 23, 24, 25, 26, 27, 28, 29, 30, 31, 32, 33, 34, 35, 36, 37, 38, 39, 40, 41, 42, 43, 44, 45, 46, 47, 48, 49, 50, 51, 52, 53, 54, 55, 56, 57, 58, 59, 60, 61, 62, 63, 64, 65, 66, 67, 68, 69, 70, 71, 72, 73, 74, 75, 76, 77, 78, 79, 80, 81, 82] (by decide +kernel) (by decide +kernel)
set_option maxRecDepth 20000 in
theorem gX8_surest_X8_surestTurns : GoodIn wsX8_surest (wsV RX8 226 RX8 yX8_surestTurns wsX8_surestTurns) := goodIn_app (goodIn_of _ (by decide +kernel)) ggX8_surest_X8_surestTurns
set_option maxRecDepth 20000 in
theorem ggX8_surest_X8_bestBy : GoodIn wsX8_surest wsX8_bestBy := goodIn_r _ [25, 26, 6, 27, 28, 29, 9, 30, 4, 31, 32, 33, 34, 35, 36, 37, 38, 39, 40, 41, 42, 43, 44, 45, 46, 47, 48, 49, 19, 20, 21, 53, 54, 55, 56, 57, 58, 59, 60, 61, 62, 63, 64, 65, 66, 67, 68, 69, 70, 71, 72, 73, 74, 75, 76, 77, 78, 79, 80, 81, 82] (by decide +kernel) (by decide +kernel)
set_option maxRecDepth 20000 in
theorem gX8_surest_X8_bestBy : GoodIn wsX8_surest (wsV RX8 202 RX8 yX8_bestBy wsX8_bestBy) := goodIn_app (goodIn_of _ (by decide +kernel)) ggX8_surest_X8_bestBy
set_option maxRecDepth 20000 in
theorem ggX8_surest_X8_placeOf : GoodIn wsX8_surest wsX8_placeOf := goodIn_r _ [21] (by decide +kernel) (by decide +kernel)
set_option maxRecDepth 20000 in
theorem gX8_surest_X8_placeOf : GoodIn wsX8_surest (va_wsS RX8 199 yX8_placeOf wsX8_placeOf) := goodIn_app (goodIn_of _ (by decide +kernel)) ggX8_surest_X8_placeOf
set_option maxRecDepth 20000 in
theorem ggX8_surest_X8_paceBy : GoodIn wsX8_surest wsX8_paceBy := goodIn_r _ [35] (by decide +kernel) (by decide +kernel)
set_option maxRecDepth 20000 in
theorem gX8_surest_X8_paceBy : GoodIn wsX8_surest (va_wsS RX8 141 yX8_paceBy wsX8_paceBy) := goodIn_app (goodIn_of _ (by decide +kernel)) ggX8_surest_X8_paceBy
set_option maxRecDepth 20000 in
theorem ggX8_surest_X8_cellBy : GoodIn wsX8_surest wsX8_cellBy := goodIn_r _ [39, 4, 53, 54, 55, 56, 57, 58, 59, 60, 61, 62, 63, 64, 65, 66, 67, 68, 69, 70, 71, 72, 73, 74, 75, 76, 77, 78, 79, 80, 81, 82] (by decide +kernel) (by decide +kernel)
set_option maxRecDepth 20000 in
theorem gX8_surest_X8_cellBy : GoodIn wsX8_surest (wsV RX8 144 RX8 yX8_cellBy wsX8_cellBy) := goodIn_app (goodIn_of _ (by decide +kernel)) ggX8_surest_X8_cellBy
theorem dX8_surest_0 : decode cX8_surest 0 = .ok (.iload_n 1, 1) := by decide +kernel
theorem dX8_surest_1 : decode cX8_surest 1 = .ok (.i2l, 1) := by decide +kernel
theorem dX8_surest_2 : decode cX8_surest 2 = .ok (.lconst 1, 1) := by decide +kernel
theorem dX8_surest_3 : decode cX8_surest 3 = .ok (.ldc2_w 220, 3) := by decide +kernel
theorem dX8_surest_6 : decode cX8_surest 6 = .ok (.invokestatic 78, 3) := by decide +kernel
theorem dX8_surest_9 : decode cX8_surest 9 = .ok (.ifCond .eq 17, 3) := by decide +kernel
theorem dX8_surest_12 : decode cX8_surest 12 = .ok (.iload_n 2, 1) := by decide +kernel
theorem dX8_surest_13 : decode cX8_surest 13 = .ok (.i2l, 1) := by decide +kernel
theorem dX8_surest_14 : decode cX8_surest 14 = .ok (.ldc2_w 222, 3) := by decide +kernel
theorem dX8_surest_17 : decode cX8_surest 17 = .ok (.ldc2_w 224, 3) := by decide +kernel
theorem dX8_surest_20 : decode cX8_surest 20 = .ok (.invokestatic 78, 3) := by decide +kernel
theorem dX8_surest_23 : decode cX8_surest 23 = .ok (.ifCond .ne 6, 3) := by decide +kernel
theorem dX8_surest_26 : decode cX8_surest 26 = .ok (.bipush (-2), 2) := by decide +kernel
theorem dX8_surest_28 : decode cX8_surest 28 = .ok (.ireturn, 1) := by decide +kernel
theorem dX8_surest_29 : decode cX8_surest 29 = .ok (.aload_n 0, 1) := by decide +kernel
theorem dX8_surest_30 : decode cX8_surest 30 = .ok (.getfield 75, 3) := by decide +kernel
theorem dX8_surest_33 : decode cX8_surest 33 = .ok (.ifCond .ne 6, 3) := by decide +kernel
theorem dX8_surest_36 : decode cX8_surest 36 = .ok (.bipush (-3), 2) := by decide +kernel
theorem dX8_surest_38 : decode cX8_surest 38 = .ok (.ireturn, 1) := by decide +kernel
theorem dX8_surest_39 : decode cX8_surest 39 = .ok (.aload_n 0, 1) := by decide +kernel
theorem dX8_surest_40 : decode cX8_surest 40 = .ok (.iload_n 1, 1) := by decide +kernel
theorem dX8_surest_41 : decode cX8_surest 41 = .ok (.invokevirtual 226, 3) := by decide +kernel
theorem dX8_surest_44 : decode cX8_surest 44 = .ok (.istore_n 3, 1) := by decide +kernel
theorem dX8_surest_45 : decode cX8_surest 45 = .ok (.iload_n 2, 1) := by decide +kernel
theorem dX8_surest_46 : decode cX8_surest 46 = .ok (.ifCond .lt 7, 3) := by decide +kernel
theorem dX8_surest_49 : decode cX8_surest 49 = .ok (.iload_n 3, 1) := by decide +kernel
theorem dX8_surest_50 : decode cX8_surest 50 = .ok (.ifCond .ge 5, 3) := by decide +kernel
theorem dX8_surest_53 : decode cX8_surest 53 = .ok (.iload_n 3, 1) := by decide +kernel
theorem dX8_surest_54 : decode cX8_surest 54 = .ok (.ireturn, 1) := by decide +kernel
theorem dX8_surest_55 : decode cX8_surest 55 = .ok (.iconst 0, 1) := by decide +kernel
theorem dX8_surest_56 : decode cX8_surest 56 = .ok (.istore 4, 2) := by decide +kernel
theorem dX8_surest_58 : decode cX8_surest 58 = .ok (.aload_n 0, 1) := by decide +kernel
theorem dX8_surest_59 : decode cX8_surest 59 = .ok (.getfield 127, 3) := by decide +kernel
theorem dX8_surest_62 : decode cX8_surest 62 = .ok (.istore 5, 2) := by decide +kernel
theorem dX8_surest_64 : decode cX8_surest 64 = .ok (.bipush (-9), 2) := by decide +kernel
theorem dX8_surest_66 : decode cX8_surest 66 = .ok (.istore 6, 2) := by decide +kernel
theorem dX8_surest_68 : decode cX8_surest 68 = .ok (.iconst 0, 1) := by decide +kernel
theorem dX8_surest_69 : decode cX8_surest 69 = .ok (.istore 7, 2) := by decide +kernel
theorem dX8_surest_71 : decode cX8_surest 71 = .ok (.iload 7, 2) := by decide +kernel
theorem dX8_surest_73 : decode cX8_surest 73 = .ok (.iload_n 2, 1) := by decide +kernel
theorem dX8_surest_74 : decode cX8_surest 74 = .ok (.if_icmp .gt 92, 3) := by decide +kernel
theorem dX8_surest_77 : decode cX8_surest 77 = .ok (.iload 7, 2) := by decide +kernel
theorem dX8_surest_79 : decode cX8_surest 79 = .ok (.iload_n 3, 1) := by decide +kernel
theorem dX8_surest_80 : decode cX8_surest 80 = .ok (.if_icmp .ge 86, 3) := by decide +kernel
theorem dX8_surest_83 : decode cX8_surest 83 = .ok (.iconst 0, 1) := by decide +kernel
theorem dX8_surest_84 : decode cX8_surest 84 = .ok (.istore 8, 2) := by decide +kernel
theorem dX8_surest_86 : decode cX8_surest 86 = .ok (.aload_n 0, 1) := by decide +kernel
theorem dX8_surest_87 : decode cX8_surest 87 = .ok (.iload 8, 2) := by decide +kernel
theorem dX8_surest_89 : decode cX8_surest 89 = .ok (.iload_n 3, 1) := by decide +kernel
theorem dX8_surest_90 : decode cX8_surest 90 = .ok (.iload 7, 2) := by decide +kernel
theorem dX8_surest_92 : decode cX8_surest 92 = .ok (.isub, 1) := by decide +kernel
theorem dX8_surest_93 : decode cX8_surest 93 = .ok (.iload 4, 2) := by decide +kernel
theorem dX8_surest_95 : decode cX8_surest 95 = .ok (.iload 5, 2) := by decide +kernel
theorem dX8_surest_97 : decode cX8_surest 97 = .ok (.invokevirtual 202, 3) := by decide +kernel
theorem dX8_surest_100 : decode cX8_surest 100 = .ok (.aload_n 0, 1) := by decide +kernel
theorem dX8_surest_101 : decode cX8_surest 101 = .ok (.getfield 34, 3) := by decide +kernel
theorem dX8_surest_104 : decode cX8_surest 104 = .ok (.iload_n 3, 1) := by decide +kernel
theorem dX8_surest_105 : decode cX8_surest 105 = .ok (.iload 7, 2) := by decide +kernel
theorem dX8_surest_107 : decode cX8_surest 107 = .ok (.isub, 1) := by decide +kernel
theorem dX8_surest_108 : decode cX8_surest 108 = .ok (.iload 4, 2) := by decide +kernel
theorem dX8_surest_110 : decode cX8_surest 110 = .ok (.iload 5, 2) := by decide +kernel
theorem dX8_surest_112 : decode cX8_surest 112 = .ok (.invokestatic 199, 3) := by decide +kernel
theorem dX8_surest_115 : decode cX8_surest 115 = .ok (.laload, 1) := by decide +kernel
theorem dX8_surest_116 : decode cX8_surest 116 = .ok (.lcmp, 1) := by decide +kernel
theorem dX8_surest_117 : decode cX8_surest 117 = .ok (.ifCond .eq 9, 3) := by decide +kernel
theorem dX8_surest_120 : decode cX8_surest 120 = .ok (.iinc 8 1, 3) := by decide +kernel
theorem dX8_surest_123 : decode cX8_surest 123 = .ok (.goto (-37), 3) := by decide +kernel
theorem dX8_surest_126 : decode cX8_surest 126 = .ok (.iload 8, 2) := by decide +kernel
theorem dX8_surest_128 : decode cX8_surest 128 = .ok (.iload 5, 2) := by decide +kernel
theorem dX8_surest_130 : decode cX8_surest 130 = .ok (.invokestatic 141, 3) := by decide +kernel
theorem dX8_surest_133 : decode cX8_surest 133 = .ok (.istore 5, 2) := by decide +kernel
theorem dX8_surest_135 : decode cX8_surest 135 = .ok (.aload_n 0, 1) := by decide +kernel
theorem dX8_surest_136 : decode cX8_surest 136 = .ok (.iload 4, 2) := by decide +kernel
theorem dX8_surest_138 : decode cX8_surest 138 = .ok (.iload 5, 2) := by decide +kernel
theorem dX8_surest_140 : decode cX8_surest 140 = .ok (.invokevirtual 144, 3) := by decide +kernel
theorem dX8_surest_143 : decode cX8_surest 143 = .ok (.istore 4, 2) := by decide +kernel
theorem dX8_surest_145 : decode cX8_surest 145 = .ok (.iload 7, 2) := by decide +kernel
theorem dX8_surest_147 : decode cX8_surest 147 = .ok (.iload_n 2, 1) := by decide +kernel
theorem dX8_surest_148 : decode cX8_surest 148 = .ok (.if_icmp .ne 8, 3) := by decide +kernel
theorem dX8_surest_151 : decode cX8_surest 151 = .ok (.iload 8, 2) := by decide +kernel
theorem dX8_surest_153 : decode cX8_surest 153 = .ok (.goto 5, 3) := by decide +kernel
theorem dX8_surest_156 : decode cX8_surest 156 = .ok (.iload 6, 2) := by decide +kernel
theorem dX8_surest_158 : decode cX8_surest 158 = .ok (.istore 6, 2) := by decide +kernel
theorem dX8_surest_160 : decode cX8_surest 160 = .ok (.iinc 7 1, 3) := by decide +kernel
theorem dX8_surest_163 : decode cX8_surest 163 = .ok (.goto (-92), 3) := by decide +kernel
theorem dX8_surest_166 : decode cX8_surest 166 = .ok (.iload 6, 2) := by decide +kernel
theorem dX8_surest_168 : decode cX8_surest 168 = .ok (.ireturn, 1) := by decide +kernel
set_option maxRecDepth 20000 in
theorem ggX8_sure_X8_in : GoodIn wsX8_sure wsX8_in := goodIn_r _ [8] (by decide +kernel) (by decide +kernel)
set_option maxRecDepth 20000 in
theorem gX8_sure_X8_in : GoodIn wsX8_sure (va_wsS RX8 78 yX8_in wsX8_in) := goodIn_app (goodIn_of _ (by decide +kernel)) ggX8_sure_X8_in
set_option maxRecDepth 20000 in
theorem ggX8_sure_X8_lost : GoodIn wsX8_sure wsX8_lost := goodIn_r _ [11, 12] (by decide +kernel) (by decide +kernel)
set_option maxRecDepth 20000 in
theorem gX8_sure_X8_lost : GoodIn wsX8_sure (va_wsS RX8 71 yX8_lost wsX8_lost) := goodIn_app (goodIn_of _ (by decide +kernel)) ggX8_sure_X8_lost
set_option maxRecDepth 20000 in
theorem ggX8_sure_X8_surestTurns : GoodIn wsX8_sure wsX8_surestTurns := goodIn_r _ [16, 3, 4, 17, 18, 19, 7, 20, 2, 21, 22, 23, 24, 25, 26, 27, 28, 29, 30, 31, 32, 33, 34, 35, 36, 37, 38, 39, 40, 41, 42, 43, 44, 45, 46, 47, 48, 49, 50, 51, 52, 53, 54, 58, 59, 60, 61, 62, 63, 64, 65, 66, 67, 68, 69, 70, 71, 72, 73, 74, 75, 76, 77, 78, 79, 80, 81, 82, 83, 84, 85, 86, 87] (by decide +kernel) (by decide +kernel)
set_option maxRecDepth 20000 in
theorem gX8_sure_X8_surestTurns : GoodIn wsX8_sure (wsV RX8 226 RX8 yX8_surestTurns wsX8_surestTurns) := goodIn_app (goodIn_of _ (by decide +kernel)) ggX8_sure_X8_surestTurns
set_option maxRecDepth 20000 in
theorem ggX8_sure_X8_placeOf : GoodIn wsX8_sure wsX8_placeOf := goodIn_r _ [23] (by decide +kernel) (by decide +kernel)
set_option maxRecDepth 20000 in
theorem gX8_sure_X8_placeOf : GoodIn wsX8_sure (va_wsS RX8 199 yX8_placeOf wsX8_placeOf) := goodIn_app (goodIn_of _ (by decide +kernel)) ggX8_sure_X8_placeOf
set_option maxRecDepth 20000 in
theorem ggX8_sure_X8_tens : GoodIn wsX8_sure wsX8_tens := goodIn_r _ [54, 28] (by decide +kernel) (by decide +kernel)
set_option maxRecDepth 20000 in
theorem gX8_sure_X8_tens : GoodIn wsX8_sure (va_wsS RX8 191 yX8_tens wsX8_tens) := goodIn_app (goodIn_of _ (by decide +kernel)) ggX8_sure_X8_tens
set_option maxRecDepth 20000 in
theorem ggX8_sure_X8_told : GoodIn wsX8_sure wsX8_told := goodIn_r _ [57] (by decide +kernel) (by decide +kernel)
set_option maxRecDepth 20000 in
theorem gX8_sure_X8_told : GoodIn wsX8_sure (va_wsS RX8 195 yX8_told wsX8_told) := goodIn_app (goodIn_of _ (by decide +kernel)) ggX8_sure_X8_told
theorem dX8_sure_0 : decode cX8_sure 0 = .ok (.iload_n 1, 1) := by decide +kernel
theorem dX8_sure_1 : decode cX8_sure 1 = .ok (.i2l, 1) := by decide +kernel
theorem dX8_sure_2 : decode cX8_sure 2 = .ok (.lconst 1, 1) := by decide +kernel
theorem dX8_sure_3 : decode cX8_sure 3 = .ok (.ldc2_w 220, 3) := by decide +kernel
theorem dX8_sure_6 : decode cX8_sure 6 = .ok (.invokestatic 78, 3) := by decide +kernel
theorem dX8_sure_9 : decode cX8_sure 9 = .ok (.ifCond .eq 20, 3) := by decide +kernel
theorem dX8_sure_12 : decode cX8_sure 12 = .ok (.iload_n 2, 1) := by decide +kernel
theorem dX8_sure_13 : decode cX8_sure 13 = .ok (.i2l, 1) := by decide +kernel
theorem dX8_sure_14 : decode cX8_sure 14 = .ok (.lconst 0, 1) := by decide +kernel
theorem dX8_sure_15 : decode cX8_sure 15 = .ok (.lconst 1, 1) := by decide +kernel
theorem dX8_sure_16 : decode cX8_sure 16 = .ok (.invokestatic 78, 3) := by decide +kernel
theorem dX8_sure_19 : decode cX8_sure 19 = .ok (.ifCond .eq 10, 3) := by decide +kernel
theorem dX8_sure_22 : decode cX8_sure 22 = .ok (.aload_n 0, 1) := by decide +kernel
theorem dX8_sure_23 : decode cX8_sure 23 = .ok (.getfield 75, 3) := by decide +kernel
theorem dX8_sure_26 : decode cX8_sure 26 = .ok (.ifCond .ne 7, 3) := by decide +kernel
theorem dX8_sure_29 : decode cX8_sure 29 = .ok (.invokestatic 71, 3) := by decide +kernel
theorem dX8_sure_32 : decode cX8_sure 32 = .ok (.lreturn, 1) := by decide +kernel
theorem dX8_sure_33 : decode cX8_sure 33 = .ok (.aload_n 0, 1) := by decide +kernel
theorem dX8_sure_34 : decode cX8_sure 34 = .ok (.iload_n 1, 1) := by decide +kernel
theorem dX8_sure_35 : decode cX8_sure 35 = .ok (.invokevirtual 226, 3) := by decide +kernel
theorem dX8_sure_38 : decode cX8_sure 38 = .ok (.istore_n 3, 1) := by decide +kernel
theorem dX8_sure_39 : decode cX8_sure 39 = .ok (.iload_n 3, 1) := by decide +kernel
theorem dX8_sure_40 : decode cX8_sure 40 = .ok (.ifCond .ge 8, 3) := by decide +kernel
theorem dX8_sure_43 : decode cX8_sure 43 = .ok (.iload_n 2, 1) := by decide +kernel
theorem dX8_sure_44 : decode cX8_sure 44 = .ok (.i2l, 1) := by decide +kernel
theorem dX8_sure_45 : decode cX8_sure 45 = .ok (.goto 25, 3) := by decide +kernel
theorem dX8_sure_48 : decode cX8_sure 48 = .ok (.aload_n 0, 1) := by decide +kernel
theorem dX8_sure_49 : decode cX8_sure 49 = .ok (.getfield 34, 3) := by decide +kernel
theorem dX8_sure_52 : decode cX8_sure 52 = .ok (.iload_n 3, 1) := by decide +kernel
theorem dX8_sure_53 : decode cX8_sure 53 = .ok (.iconst 0, 1) := by decide +kernel
theorem dX8_sure_54 : decode cX8_sure 54 = .ok (.aload_n 0, 1) := by decide +kernel
theorem dX8_sure_55 : decode cX8_sure 55 = .ok (.getfield 127, 3) := by decide +kernel
theorem dX8_sure_58 : decode cX8_sure 58 = .ok (.invokestatic 199, 3) := by decide +kernel
theorem dX8_sure_61 : decode cX8_sure 61 = .ok (.laload, 1) := by decide +kernel
theorem dX8_sure_62 : decode cX8_sure 62 = .ok (.iload_n 3, 1) := by decide +kernel
theorem dX8_sure_63 : decode cX8_sure 63 = .ok (.invokestatic 191, 3) := by decide +kernel
theorem dX8_sure_66 : decode cX8_sure 66 = .ok (.iload_n 2, 1) := by decide +kernel
theorem dX8_sure_67 : decode cX8_sure 67 = .ok (.invokestatic 195, 3) := by decide +kernel
theorem dX8_sure_70 : decode cX8_sure 70 = .ok (.lreturn, 1) := by decide +kernel
set_option maxRecDepth 20000 in
theorem ggX8_cost_X8_noPlace : GoodIn wsX8_cost wsX8_noPlace := goodIn_r _ [6, 7, 8, 9, 5, 10, 38, 39, 40, 41, 42, 43, 44, 45, 46, 47, 48, 49, 50, 51, 52, 53, 54, 55, 56, 57, 58, 59, 60, 61, 62, 63, 64, 65, 66, 67] (by decide +kernel) (by decide +kernel)
set_option maxRecDepth 20000 in
theorem gX8_cost_X8_noPlace : GoodIn wsX8_cost (wsV RX8 133 RX8 yX8_noPlace wsX8_noPlace) := goodIn_app (goodIn_of _ (by decide +kernel)) ggX8_cost_X8_noPlace
set_option maxRecDepth 20000 in
theorem ggX8_cost_X8_soonestNow : GoodIn wsX8_cost wsX8_soonestNow := goodIn_r _ [14, 15, 16, 17, 18, 19, 5, 20, 7, 21, 22, 23, 24, 25, 26, 27, 28, 29, 30, 1, 31, 32, 33, 34, 35, 36, 37, 38, 39, 40, 41, 42, 43, 44, 45, 46, 47, 48, 49, 50, 51, 52, 53, 54, 55, 56, 57, 58, 59, 60, 61, 62, 63, 64, 65, 66, 67] (by decide +kernel) (by decide +kernel)
set_option maxRecDepth 20000 in
theorem gX8_cost_X8_soonestNow : GoodIn wsX8_cost (wsV RX8 213 RX8 yX8_soonestNow wsX8_soonestNow) := goodIn_app (goodIn_of _ (by decide +kernel)) ggX8_cost_X8_soonestNow
theorem dX8_cost_0 : decode cX8_cost 0 = .ok (.aload_n 0, 1) := by decide +kernel
theorem dX8_cost_1 : decode cX8_cost 1 = .ok (.iload_n 1, 1) := by decide +kernel
theorem dX8_cost_2 : decode cX8_cost 2 = .ok (.invokevirtual 133, 3) := by decide +kernel
theorem dX8_cost_5 : decode cX8_cost 5 = .ok (.ifCond .eq 5, 3) := by decide +kernel
theorem dX8_cost_8 : decode cX8_cost 8 = .ok (.iconst (-1), 1) := by decide +kernel
theorem dX8_cost_9 : decode cX8_cost 9 = .ok (.ireturn, 1) := by decide +kernel
theorem dX8_cost_10 : decode cX8_cost 10 = .ok (.aload_n 0, 1) := by decide +kernel
theorem dX8_cost_11 : decode cX8_cost 11 = .ok (.getfield 19, 3) := by decide +kernel
theorem dX8_cost_14 : decode cX8_cost 14 = .ok (.iload_n 1, 1) := by decide +kernel
theorem dX8_cost_15 : decode cX8_cost 15 = .ok (.iaload, 1) := by decide +kernel
theorem dX8_cost_16 : decode cX8_cost 16 = .ok (.ifCond .ne 5, 3) := by decide +kernel
theorem dX8_cost_19 : decode cX8_cost 19 = .ok (.iconst 0, 1) := by decide +kernel
theorem dX8_cost_20 : decode cX8_cost 20 = .ok (.ireturn, 1) := by decide +kernel
theorem dX8_cost_21 : decode cX8_cost 21 = .ok (.aload_n 0, 1) := by decide +kernel
theorem dX8_cost_22 : decode cX8_cost 22 = .ok (.invokevirtual 213, 3) := by decide +kernel
theorem dX8_cost_25 : decode cX8_cost 25 = .ok (.istore_n 2, 1) := by decide +kernel
theorem dX8_cost_26 : decode cX8_cost 26 = .ok (.aload_n 0, 1) := by decide +kernel
theorem dX8_cost_27 : decode cX8_cost 27 = .ok (.getfield 19, 3) := by decide +kernel
theorem dX8_cost_30 : decode cX8_cost 30 = .ok (.iload_n 1, 1) := by decide +kernel
theorem dX8_cost_31 : decode cX8_cost 31 = .ok (.iconst 0, 1) := by decide +kernel
theorem dX8_cost_32 : decode cX8_cost 32 = .ok (.iastore, 1) := by decide +kernel
theorem dX8_cost_33 : decode cX8_cost 33 = .ok (.aload_n 0, 1) := by decide +kernel
theorem dX8_cost_34 : decode cX8_cost 34 = .ok (.invokevirtual 213, 3) := by decide +kernel
theorem dX8_cost_37 : decode cX8_cost 37 = .ok (.istore_n 3, 1) := by decide +kernel
theorem dX8_cost_38 : decode cX8_cost 38 = .ok (.aload_n 0, 1) := by decide +kernel
theorem dX8_cost_39 : decode cX8_cost 39 = .ok (.getfield 19, 3) := by decide +kernel
theorem dX8_cost_42 : decode cX8_cost 42 = .ok (.iload_n 1, 1) := by decide +kernel
theorem dX8_cost_43 : decode cX8_cost 43 = .ok (.iconst 1, 1) := by decide +kernel
theorem dX8_cost_44 : decode cX8_cost 44 = .ok (.iastore, 1) := by decide +kernel
theorem dX8_cost_45 : decode cX8_cost 45 = .ok (.iload_n 2, 1) := by decide +kernel
theorem dX8_cost_46 : decode cX8_cost 46 = .ok (.ifCond .lt 7, 3) := by decide +kernel
theorem dX8_cost_49 : decode cX8_cost 49 = .ok (.iload_n 3, 1) := by decide +kernel
theorem dX8_cost_50 : decode cX8_cost 50 = .ok (.ifCond .ge 8, 3) := by decide +kernel
theorem dX8_cost_53 : decode cX8_cost 53 = .ok (.bipush (-9), 2) := by decide +kernel
theorem dX8_cost_55 : decode cX8_cost 55 = .ok (.goto 6, 3) := by decide +kernel
theorem dX8_cost_58 : decode cX8_cost 58 = .ok (.iload_n 2, 1) := by decide +kernel
theorem dX8_cost_59 : decode cX8_cost 59 = .ok (.iload_n 3, 1) := by decide +kernel
theorem dX8_cost_60 : decode cX8_cost 60 = .ok (.isub, 1) := by decide +kernel
theorem dX8_cost_61 : decode cX8_cost 61 = .ok (.ireturn, 1) := by decide +kernel
set_option maxRecDepth 20000 in
theorem ggX8_reading_X8_noPlace : GoodIn wsX8_reading wsX8_noPlace := goodIn_r _ [9, 10, 11, 12, 8, 13, 14, 15, 16, 17, 18, 19, 20, 21, 22, 23, 24, 25, 26, 27, 28, 29, 30, 31, 32, 33, 34, 35, 36, 37, 38, 39, 40, 41, 42, 43] (by decide +kernel) (by decide +kernel)
set_option maxRecDepth 20000 in
theorem gX8_reading_X8_noPlace : GoodIn wsX8_reading (wsV RX8 133 RX8 yX8_noPlace wsX8_noPlace) := goodIn_app (goodIn_of _ (by decide +kernel)) ggX8_reading_X8_noPlace
set_option maxRecDepth 20000 in
theorem ggX8_reading_X8_in : GoodIn wsX8_reading wsX8_in := goodIn_r _ [13] (by decide +kernel) (by decide +kernel)
set_option maxRecDepth 20000 in
theorem gX8_reading_X8_in : GoodIn wsX8_reading (va_wsS RX8 78 yX8_in wsX8_in) := goodIn_app (goodIn_of _ (by decide +kernel)) ggX8_reading_X8_in
theorem dX8_reading_0 : decode cX8_reading 0 = .ok (.aload_n 0, 1) := by decide +kernel
theorem dX8_reading_1 : decode cX8_reading 1 = .ok (.iload_n 2, 1) := by decide +kernel
theorem dX8_reading_2 : decode cX8_reading 2 = .ok (.invokevirtual 133, 3) := by decide +kernel
theorem dX8_reading_5 : decode cX8_reading 5 = .ok (.ifCond .eq 5, 3) := by decide +kernel
theorem dX8_reading_8 : decode cX8_reading 8 = .ok (.iconst (-1), 1) := by decide +kernel
theorem dX8_reading_9 : decode cX8_reading 9 = .ok (.ireturn, 1) := by decide +kernel
theorem dX8_reading_10 : decode cX8_reading 10 = .ok (.iload_n 1, 1) := by decide +kernel
theorem dX8_reading_11 : decode cX8_reading 11 = .ok (.i2l, 1) := by decide +kernel
theorem dX8_reading_12 : decode cX8_reading 12 = .ok (.lconst 1, 1) := by decide +kernel
theorem dX8_reading_13 : decode cX8_reading 13 = .ok (.ldc2_w 220, 3) := by decide +kernel
theorem dX8_reading_16 : decode cX8_reading 16 = .ok (.invokestatic 78, 3) := by decide +kernel
theorem dX8_reading_19 : decode cX8_reading 19 = .ok (.ifCond .ne 6, 3) := by decide +kernel
theorem dX8_reading_22 : decode cX8_reading 22 = .ok (.bipush (-2), 2) := by decide +kernel
theorem dX8_reading_24 : decode cX8_reading 24 = .ok (.ireturn, 1) := by decide +kernel
theorem dX8_reading_25 : decode cX8_reading 25 = .ok (.aload_n 0, 1) := by decide +kernel
theorem dX8_reading_26 : decode cX8_reading 26 = .ok (.getfield 130, 3) := by decide +kernel
theorem dX8_reading_29 : decode cX8_reading 29 = .ok (.bipush 8, 2) := by decide +kernel
theorem dX8_reading_31 : decode cX8_reading 31 = .ok (.if_icmp .ne 6, 3) := by decide +kernel
theorem dX8_reading_34 : decode cX8_reading 34 = .ok (.bipush (-4), 2) := by decide +kernel
theorem dX8_reading_36 : decode cX8_reading 36 = .ok (.ireturn, 1) := by decide +kernel
theorem dX8_reading_37 : decode cX8_reading 37 = .ok (.aload_n 0, 1) := by decide +kernel
theorem dX8_reading_38 : decode cX8_reading 38 = .ok (.getfield 45, 3) := by decide +kernel
theorem dX8_reading_41 : decode cX8_reading 41 = .ok (.aload_n 0, 1) := by decide +kernel
theorem dX8_reading_42 : decode cX8_reading 42 = .ok (.getfield 130, 3) := by decide +kernel
theorem dX8_reading_45 : decode cX8_reading 45 = .ok (.iload_n 1, 1) := by decide +kernel
theorem dX8_reading_46 : decode cX8_reading 46 = .ok (.iastore, 1) := by decide +kernel
theorem dX8_reading_47 : decode cX8_reading 47 = .ok (.aload_n 0, 1) := by decide +kernel
theorem dX8_reading_48 : decode cX8_reading 48 = .ok (.getfield 48, 3) := by decide +kernel
theorem dX8_reading_51 : decode cX8_reading 51 = .ok (.aload_n 0, 1) := by decide +kernel
theorem dX8_reading_52 : decode cX8_reading 52 = .ok (.getfield 130, 3) := by decide +kernel
theorem dX8_reading_55 : decode cX8_reading 55 = .ok (.iload_n 2, 1) := by decide +kernel
theorem dX8_reading_56 : decode cX8_reading 56 = .ok (.iastore, 1) := by decide +kernel
theorem dX8_reading_57 : decode cX8_reading 57 = .ok (.aload_n 0, 1) := by decide +kernel
theorem dX8_reading_58 : decode cX8_reading 58 = .ok (.dup, 1) := by decide +kernel
theorem dX8_reading_59 : decode cX8_reading 59 = .ok (.getfield 130, 3) := by decide +kernel
theorem dX8_reading_62 : decode cX8_reading 62 = .ok (.iconst 1, 1) := by decide +kernel
theorem dX8_reading_63 : decode cX8_reading 63 = .ok (.iadd, 1) := by decide +kernel
theorem dX8_reading_64 : decode cX8_reading 64 = .ok (.putfield 130, 3) := by decide +kernel
theorem dX8_reading_67 : decode cX8_reading 67 = .ok (.aload_n 0, 1) := by decide +kernel
theorem dX8_reading_68 : decode cX8_reading 68 = .ok (.getfield 130, 3) := by decide +kernel
theorem dX8_reading_71 : decode cX8_reading 71 = .ok (.iconst 1, 1) := by decide +kernel
theorem dX8_reading_72 : decode cX8_reading 72 = .ok (.isub, 1) := by decide +kernel
theorem dX8_reading_73 : decode cX8_reading 73 = .ok (.ireturn, 1) := by decide +kernel
set_option maxRecDepth 20000 in
theorem ggX8_back_X8_in : GoodIn wsX8_back wsX8_in := goodIn_r _ [5] (by decide +kernel) (by decide +kernel)
set_option maxRecDepth 20000 in
theorem gX8_back_X8_in : GoodIn wsX8_back (va_wsS RX8 78 yX8_in wsX8_in) := goodIn_app (goodIn_of _ (by decide +kernel)) ggX8_back_X8_in
theorem dX8_back_0 : decode cX8_back 0 = .ok (.iload_n 1, 1) := by decide +kernel
theorem dX8_back_1 : decode cX8_back 1 = .ok (.i2l, 1) := by decide +kernel
theorem dX8_back_2 : decode cX8_back 2 = .ok (.lconst 0, 1) := by decide +kernel
theorem dX8_back_3 : decode cX8_back 3 = .ok (.aload_n 0, 1) := by decide +kernel
theorem dX8_back_4 : decode cX8_back 4 = .ok (.getfield 130, 3) := by decide +kernel
theorem dX8_back_7 : decode cX8_back 7 = .ok (.i2l, 1) := by decide +kernel
theorem dX8_back_8 : decode cX8_back 8 = .ok (.invokestatic 78, 3) := by decide +kernel
theorem dX8_back_11 : decode cX8_back 11 = .ok (.ifCond .ne 6, 3) := by decide +kernel
theorem dX8_back_14 : decode cX8_back 14 = .ok (.bipush (-2), 2) := by decide +kernel
theorem dX8_back_16 : decode cX8_back 16 = .ok (.ireturn, 1) := by decide +kernel
theorem dX8_back_17 : decode cX8_back 17 = .ok (.aload_n 0, 1) := by decide +kernel
theorem dX8_back_18 : decode cX8_back 18 = .ok (.dup, 1) := by decide +kernel
theorem dX8_back_19 : decode cX8_back 19 = .ok (.getfield 130, 3) := by decide +kernel
theorem dX8_back_22 : decode cX8_back 22 = .ok (.iload_n 1, 1) := by decide +kernel
theorem dX8_back_23 : decode cX8_back 23 = .ok (.isub, 1) := by decide +kernel
theorem dX8_back_24 : decode cX8_back 24 = .ok (.putfield 130, 3) := by decide +kernel
theorem dX8_back_27 : decode cX8_back 27 = .ok (.aload_n 0, 1) := by decide +kernel
theorem dX8_back_28 : decode cX8_back 28 = .ok (.getfield 130, 3) := by decide +kernel
theorem dX8_back_31 : decode cX8_back 31 = .ok (.ireturn, 1) := by decide +kernel
theorem dX8_areSo_0 : decode cX8_areSo 0 = .ok (.iconst 1, 1) := by decide +kernel
theorem dX8_areSo_1 : decode cX8_areSo 1 = .ok (.istore_n 2, 1) := by decide +kernel
theorem dX8_areSo_2 : decode cX8_areSo 2 = .ok (.iconst 0, 1) := by decide +kernel
theorem dX8_areSo_3 : decode cX8_areSo 3 = .ok (.istore_n 3, 1) := by decide +kernel
theorem dX8_areSo_4 : decode cX8_areSo 4 = .ok (.iload_n 3, 1) := by decide +kernel
theorem dX8_areSo_5 : decode cX8_areSo 5 = .ok (.aload_n 0, 1) := by decide +kernel
theorem dX8_areSo_6 : decode cX8_areSo 6 = .ok (.getfield 130, 3) := by decide +kernel
theorem dX8_areSo_9 : decode cX8_areSo 9 = .ok (.if_icmp .ge 42, 3) := by decide +kernel
theorem dX8_areSo_12 : decode cX8_areSo 12 = .ok (.iload_n 2, 1) := by decide +kernel
theorem dX8_areSo_13 : decode cX8_areSo 13 = .ok (.ifCond .eq 30, 3) := by decide +kernel
theorem dX8_areSo_16 : decode cX8_areSo 16 = .ok (.aload_n 0, 1) := by decide +kernel
theorem dX8_areSo_17 : decode cX8_areSo 17 = .ok (.getfield 45, 3) := by decide +kernel
theorem dX8_areSo_20 : decode cX8_areSo 20 = .ok (.iload_n 3, 1) := by decide +kernel
theorem dX8_areSo_21 : decode cX8_areSo 21 = .ok (.iaload, 1) := by decide +kernel
theorem dX8_areSo_22 : decode cX8_areSo 22 = .ok (.iload_n 1, 1) := by decide +kernel
theorem dX8_areSo_23 : decode cX8_areSo 23 = .ok (.if_icmp .ne 16, 3) := by decide +kernel
theorem dX8_areSo_26 : decode cX8_areSo 26 = .ok (.aload_n 0, 1) := by decide +kernel
theorem dX8_areSo_27 : decode cX8_areSo 27 = .ok (.getfield 48, 3) := by decide +kernel
theorem dX8_areSo_30 : decode cX8_areSo 30 = .ok (.iload_n 3, 1) := by decide +kernel
theorem dX8_areSo_31 : decode cX8_areSo 31 = .ok (.iaload, 1) := by decide +kernel
theorem dX8_areSo_32 : decode cX8_areSo 32 = .ok (.aload_n 0, 1) := by decide +kernel
theorem dX8_areSo_33 : decode cX8_areSo 33 = .ok (.getfield 147, 3) := by decide +kernel
theorem dX8_areSo_36 : decode cX8_areSo 36 = .ok (.if_icmp .ne 7, 3) := by decide +kernel
theorem dX8_areSo_39 : decode cX8_areSo 39 = .ok (.iconst 1, 1) := by decide +kernel
theorem dX8_areSo_40 : decode cX8_areSo 40 = .ok (.goto 4, 3) := by decide +kernel
theorem dX8_areSo_43 : decode cX8_areSo 43 = .ok (.iconst 0, 1) := by decide +kernel
theorem dX8_areSo_44 : decode cX8_areSo 44 = .ok (.istore_n 2, 1) := by decide +kernel
theorem dX8_areSo_45 : decode cX8_areSo 45 = .ok (.iinc 3 1, 3) := by decide +kernel
theorem dX8_areSo_48 : decode cX8_areSo 48 = .ok (.goto (-44), 3) := by decide +kernel
theorem dX8_areSo_51 : decode cX8_areSo 51 = .ok (.iload_n 2, 1) := by decide +kernel
theorem dX8_areSo_52 : decode cX8_areSo 52 = .ok (.ireturn, 1) := by decide +kernel
set_option maxRecDepth 20000 in
theorem ggX8_isWay_X8_beginPlan : GoodIn wsX8_isWay wsX8_beginPlan := goodIn_r _ [7, 1, 8, 2, 9, 10, 11, 48, 49, 50, 51, 52, 53, 54, 55, 56, 57, 58, 59, 60, 61, 62, 63, 64, 65, 66, 67, 68, 69, 70, 71, 72, 73, 74, 75, 76, 77] (by decide +kernel) (by decide +kernel)
set_option maxRecDepth 20000 in
theorem gX8_isWay_X8_beginPlan : GoodIn wsX8_isWay (wsV RX8 166 RX8 yX8_beginPlan wsX8_beginPlan) := goodIn_app (goodIn_of _ (by decide +kernel)) ggX8_isWay_X8_beginPlan
set_option maxRecDepth 20000 in
theorem ggX8_isWay_X8_canAct : GoodIn wsX8_isWay wsX8_canAct := goodIn_r _ [15, 16, 17, 18, 19, 20, 6, 21, 22, 23, 24, 25, 48, 49, 50, 51, 52, 53, 54, 55, 56, 57, 58, 59, 60, 61, 62, 63, 64, 65, 66, 67, 68, 69, 70, 71, 72, 73, 74, 75, 76, 77] (by decide +kernel) (by decide +kernel)
set_option maxRecDepth 20000 in
theorem gX8_isWay_X8_canAct : GoodIn wsX8_isWay (wsV RX8 169 RX8 yX8_canAct wsX8_canAct) := goodIn_app (goodIn_of _ (by decide +kernel)) ggX8_isWay_X8_canAct
set_option maxRecDepth 20000 in
theorem ggX8_isWay_X8_goTurn : GoodIn wsX8_isWay wsX8_goTurn := goodIn_r _ [29, 10, 30, 1, 11, 2, 31, 32, 33, 6, 34, 35, 36, 37, 38, 39, 40, 17, 19, 20, 21, 22, 23, 24, 25, 16, 48, 49, 50, 51, 52, 53, 54, 55, 56, 57, 58, 59, 60, 61, 62, 63, 64, 65, 66, 67, 68, 69, 70, 71, 72, 73, 74, 75, 76, 77] (by decide +kernel) (by decide +kernel)
set_option maxRecDepth 20000 in
theorem gX8_isWay_X8_goTurn : GoodIn wsX8_isWay (wsV RX8 173 RX8 yX8_goTurn wsX8_goTurn) := goodIn_app (goodIn_of _ (by decide +kernel)) ggX8_isWay_X8_goTurn
set_option maxRecDepth 20000 in
theorem ggX8_isWay_X8_areSo : GoodIn wsX8_isWay wsX8_areSo := goodIn_r _ [44, 45, 46, 47, 1, 48, 49, 50, 51, 52, 53, 54, 55, 56, 57, 58, 59, 60, 61, 62, 63, 64, 65, 66, 67, 68, 69, 70, 71, 72, 73, 74, 75, 76, 77] (by decide +kernel) (by decide +kernel)
set_option maxRecDepth 20000 in
theorem gX8_isWay_X8_areSo : GoodIn wsX8_isWay (wsV RX8 229 RX8 yX8_areSo wsX8_areSo) := goodIn_app (goodIn_of _ (by decide +kernel)) ggX8_isWay_X8_areSo
theorem dX8_isWay_0 : decode cX8_isWay 0 = .ok (.aload_n 0, 1) := by decide +kernel
theorem dX8_isWay_1 : decode cX8_isWay 1 = .ok (.invokevirtual 166, 3) := by decide +kernel
theorem dX8_isWay_4 : decode cX8_isWay 4 = .ok (.iconst 1, 1) := by decide +kernel
theorem dX8_isWay_5 : decode cX8_isWay 5 = .ok (.istore_n 3, 1) := by decide +kernel
theorem dX8_isWay_6 : decode cX8_isWay 6 = .ok (.iconst 0, 1) := by decide +kernel
theorem dX8_isWay_7 : decode cX8_isWay 7 = .ok (.istore 4, 2) := by decide +kernel
theorem dX8_isWay_9 : decode cX8_isWay 9 = .ok (.iload 4, 2) := by decide +kernel
theorem dX8_isWay_11 : decode cX8_isWay 11 = .ok (.iload_n 2, 1) := by decide +kernel
theorem dX8_isWay_12 : decode cX8_isWay 12 = .ok (.if_icmp .ge 61, 3) := by decide +kernel
theorem dX8_isWay_15 : decode cX8_isWay 15 = .ok (.iload_n 3, 1) := by decide +kernel
theorem dX8_isWay_16 : decode cX8_isWay 16 = .ok (.ifCond .eq 57, 3) := by decide +kernel
theorem dX8_isWay_19 : decode cX8_isWay 19 = .ok (.iload_n 1, 1) := by decide +kernel
theorem dX8_isWay_20 : decode cX8_isWay 20 = .ok (.iconst 2, 1) := by decide +kernel
theorem dX8_isWay_21 : decode cX8_isWay 21 = .ok (.iload_n 2, 1) := by decide +kernel
theorem dX8_isWay_22 : decode cX8_isWay 22 = .ok (.iconst 1, 1) := by decide +kernel
theorem dX8_isWay_23 : decode cX8_isWay 23 = .ok (.isub, 1) := by decide +kernel
theorem dX8_isWay_24 : decode cX8_isWay 24 = .ok (.iload 4, 2) := by decide +kernel
theorem dX8_isWay_26 : decode cX8_isWay 26 = .ok (.isub, 1) := by decide +kernel
theorem dX8_isWay_27 : decode cX8_isWay 27 = .ok (.imul, 1) := by decide +kernel
theorem dX8_isWay_28 : decode cX8_isWay 28 = .ok (.ishr, 1) := by decide +kernel
theorem dX8_isWay_29 : decode cX8_isWay 29 = .ok (.iconst 3, 1) := by decide +kernel
theorem dX8_isWay_30 : decode cX8_isWay 30 = .ok (.iand, 1) := by decide +kernel
theorem dX8_isWay_31 : decode cX8_isWay 31 = .ok (.istore 5, 2) := by decide +kernel
theorem dX8_isWay_33 : decode cX8_isWay 33 = .ok (.aload_n 0, 1) := by decide +kernel
theorem dX8_isWay_34 : decode cX8_isWay 34 = .ok (.iload 5, 2) := by decide +kernel
theorem dX8_isWay_36 : decode cX8_isWay 36 = .ok (.aload_n 0, 1) := by decide +kernel
theorem dX8_isWay_37 : decode cX8_isWay 37 = .ok (.getfield 147, 3) := by decide +kernel
theorem dX8_isWay_40 : decode cX8_isWay 40 = .ok (.aload_n 0, 1) := by decide +kernel
theorem dX8_isWay_41 : decode cX8_isWay 41 = .ok (.getfield 150, 3) := by decide +kernel
theorem dX8_isWay_44 : decode cX8_isWay 44 = .ok (.invokevirtual 169, 3) := by decide +kernel
theorem dX8_isWay_47 : decode cX8_isWay 47 = .ok (.istore_n 3, 1) := by decide +kernel
theorem dX8_isWay_48 : decode cX8_isWay 48 = .ok (.iload_n 3, 1) := by decide +kernel
theorem dX8_isWay_49 : decode cX8_isWay 49 = .ok (.ifCond .eq 18, 3) := by decide +kernel
theorem dX8_isWay_52 : decode cX8_isWay 52 = .ok (.aload_n 0, 1) := by decide +kernel
theorem dX8_isWay_53 : decode cX8_isWay 53 = .ok (.iload 5, 2) := by decide +kernel
theorem dX8_isWay_55 : decode cX8_isWay 55 = .ok (.invokevirtual 173, 3) := by decide +kernel
theorem dX8_isWay_58 : decode cX8_isWay 58 = .ok (.aload_n 0, 1) := by decide +kernel
theorem dX8_isWay_59 : decode cX8_isWay 59 = .ok (.iload 4, 2) := by decide +kernel
theorem dX8_isWay_61 : decode cX8_isWay 61 = .ok (.iconst 1, 1) := by decide +kernel
theorem dX8_isWay_62 : decode cX8_isWay 62 = .ok (.iadd, 1) := by decide +kernel
theorem dX8_isWay_63 : decode cX8_isWay 63 = .ok (.invokevirtual 229, 3) := by decide +kernel
theorem dX8_isWay_66 : decode cX8_isWay 66 = .ok (.istore_n 3, 1) := by decide +kernel
theorem dX8_isWay_67 : decode cX8_isWay 67 = .ok (.iinc 4 1, 3) := by decide +kernel
theorem dX8_isWay_70 : decode cX8_isWay 70 = .ok (.goto (-61), 3) := by decide +kernel
theorem dX8_isWay_73 : decode cX8_isWay 73 = .ok (.iload_n 3, 1) := by decide +kernel
theorem dX8_isWay_74 : decode cX8_isWay 74 = .ok (.ireturn, 1) := by decide +kernel
set_option maxRecDepth 20000 in
theorem ggX8_ways_X8_in : GoodIn wsX8_ways wsX8_in := goodIn_r _ [8] (by decide +kernel) (by decide +kernel)
set_option maxRecDepth 20000 in
theorem gX8_ways_X8_in : GoodIn wsX8_ways (va_wsS RX8 78 yX8_in wsX8_in) := goodIn_app (goodIn_of _ (by decide +kernel)) ggX8_ways_X8_in
set_option maxRecDepth 20000 in
theorem ggX8_ways_X8_isWay : GoodIn wsX8_ways wsX8_isWay := goodIn_r _ [12, 13, 14, 15, 16, 17, 7, 18, 19, 20, 21, 22, 23, 24, 25, 26, 4, 27, 28, 29, 30, 31, 32, 33, 34, 35, 36, 37, 38, 39, 40, 41, 42, 43, 44, 45, 46, 47, 48, 49, 50, 51, 52, 53, 54, 55, 56, 57, 58, 59, 60, 61, 62, 63, 64, 65, 66, 67, 68, 69, 70, 71, 72, 73, 74, 75, 76, 77, 78, 79, 80, 81, 82, 83, 84, 85, 86, 87] (by decide +kernel) (by decide +kernel)
set_option maxRecDepth 20000 in
theorem gX8_ways_X8_isWay : GoodIn wsX8_ways (wsV RX8 236 RX8 yX8_isWay wsX8_isWay) := goodIn_app (goodIn_of _ (by decide +kernel)) ggX8_ways_X8_isWay
theorem dX8_ways_0 : decode cX8_ways 0 = .ok (.iload_n 1, 1) := by decide +kernel
theorem dX8_ways_1 : decode cX8_ways 1 = .ok (.i2l, 1) := by decide +kernel
theorem dX8_ways_2 : decode cX8_ways 2 = .ok (.lconst 0, 1) := by decide +kernel
theorem dX8_ways_3 : decode cX8_ways 3 = .ok (.ldc2_w 232, 3) := by decide +kernel
theorem dX8_ways_6 : decode cX8_ways 6 = .ok (.invokestatic 78, 3) := by decide +kernel
theorem dX8_ways_9 : decode cX8_ways 9 = .ok (.ifCond .eq 17, 3) := by decide +kernel
theorem dX8_ways_12 : decode cX8_ways 12 = .ok (.iload_n 2, 1) := by decide +kernel
theorem dX8_ways_13 : decode cX8_ways 13 = .ok (.i2l, 1) := by decide +kernel
theorem dX8_ways_14 : decode cX8_ways 14 = .ok (.ldc2_w 222, 3) := by decide +kernel
theorem dX8_ways_17 : decode cX8_ways 17 = .ok (.ldc2_w 234, 3) := by decide +kernel
theorem dX8_ways_20 : decode cX8_ways 20 = .ok (.invokestatic 78, 3) := by decide +kernel
theorem dX8_ways_23 : decode cX8_ways 23 = .ok (.ifCond .ne 6, 3) := by decide +kernel
theorem dX8_ways_26 : decode cX8_ways 26 = .ok (.bipush (-2), 2) := by decide +kernel
theorem dX8_ways_28 : decode cX8_ways 28 = .ok (.ireturn, 1) := by decide +kernel
theorem dX8_ways_29 : decode cX8_ways 29 = .ok (.aload_n 0, 1) := by decide +kernel
theorem dX8_ways_30 : decode cX8_ways 30 = .ok (.getfield 75, 3) := by decide +kernel
theorem dX8_ways_33 : decode cX8_ways 33 = .ok (.ifCond .ne 6, 3) := by decide +kernel
theorem dX8_ways_36 : decode cX8_ways 36 = .ok (.bipush (-3), 2) := by decide +kernel
theorem dX8_ways_38 : decode cX8_ways 38 = .ok (.ireturn, 1) := by decide +kernel
theorem dX8_ways_39 : decode cX8_ways 39 = .ok (.iconst 0, 1) := by decide +kernel
theorem dX8_ways_40 : decode cX8_ways 40 = .ok (.istore_n 3, 1) := by decide +kernel
theorem dX8_ways_41 : decode cX8_ways 41 = .ok (.bipush (-9), 2) := by decide +kernel
theorem dX8_ways_43 : decode cX8_ways 43 = .ok (.istore 4, 2) := by decide +kernel
theorem dX8_ways_45 : decode cX8_ways 45 = .ok (.iconst 0, 1) := by decide +kernel
theorem dX8_ways_46 : decode cX8_ways 46 = .ok (.istore 5, 2) := by decide +kernel
theorem dX8_ways_48 : decode cX8_ways 48 = .ok (.iload 5, 2) := by decide +kernel
theorem dX8_ways_50 : decode cX8_ways 50 = .ok (.iconst 1, 1) := by decide +kernel
theorem dX8_ways_51 : decode cX8_ways 51 = .ok (.iconst 2, 1) := by decide +kernel
theorem dX8_ways_52 : decode cX8_ways 52 = .ok (.iload_n 1, 1) := by decide +kernel
theorem dX8_ways_53 : decode cX8_ways 53 = .ok (.imul, 1) := by decide +kernel
theorem dX8_ways_54 : decode cX8_ways 54 = .ok (.ishl, 1) := by decide +kernel
theorem dX8_ways_55 : decode cX8_ways 55 = .ok (.if_icmp .ge 36, 3) := by decide +kernel
theorem dX8_ways_58 : decode cX8_ways 58 = .ok (.aload_n 0, 1) := by decide +kernel
theorem dX8_ways_59 : decode cX8_ways 59 = .ok (.iload 5, 2) := by decide +kernel
theorem dX8_ways_61 : decode cX8_ways 61 = .ok (.iload_n 1, 1) := by decide +kernel
theorem dX8_ways_62 : decode cX8_ways 62 = .ok (.invokevirtual 236, 3) := by decide +kernel
theorem dX8_ways_65 : decode cX8_ways 65 = .ok (.ifCond .eq 20, 3) := by decide +kernel
theorem dX8_ways_68 : decode cX8_ways 68 = .ok (.iinc 3 1, 3) := by decide +kernel
theorem dX8_ways_71 : decode cX8_ways 71 = .ok (.iload 4, 2) := by decide +kernel
theorem dX8_ways_73 : decode cX8_ways 73 = .ok (.ifCond .ge 8, 3) := by decide +kernel
theorem dX8_ways_76 : decode cX8_ways 76 = .ok (.iload 5, 2) := by decide +kernel
theorem dX8_ways_78 : decode cX8_ways 78 = .ok (.goto 5, 3) := by decide +kernel
theorem dX8_ways_81 : decode cX8_ways 81 = .ok (.iload 4, 2) := by decide +kernel
theorem dX8_ways_83 : decode cX8_ways 83 = .ok (.istore 4, 2) := by decide +kernel
theorem dX8_ways_85 : decode cX8_ways 85 = .ok (.iinc 5 1, 3) := by decide +kernel
