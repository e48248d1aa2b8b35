theorem dX7_ways_54 : decode cX7_ways 54 = .ok (.getfield 58, 3) := by decide +kernel
theorem dX7_ways_57 : decode cX7_ways 57 = .ok (.iconst 0, 1) := by decide +kernel
theorem dX7_ways_58 : decode cX7_ways 58 = .ok (.aload_n 0, 1) := by decide +kernel
theorem dX7_ways_59 : decode cX7_ways 59 = .ok (.getfield 20, 3) := by decide +kernel
theorem dX7_ways_62 : decode cX7_ways 62 = .ok (.invokevirtual 193, 3) := by decide +kernel
theorem dX7_ways_65 : decode cX7_ways 65 = .ok (.invokevirtual 207, 3) := by decide +kernel
theorem dX7_ways_68 : decode cX7_ways 68 = .ok (.istore_n 3, 1) := by decide +kernel
theorem dX7_ways_69 : decode cX7_ways 69 = .ok (.iload_n 2, 1) := by decide +kernel
theorem dX7_ways_70 : decode cX7_ways 70 = .ok (.iconst (-1), 1) := by decide +kernel
theorem dX7_ways_71 : decode cX7_ways 71 = .ok (.if_icmp .ne 5, 3) := by decide +kernel
theorem dX7_ways_74 : decode cX7_ways 74 = .ok (.iload_n 3, 1) := by decide +kernel
theorem dX7_ways_75 : decode cX7_ways 75 = .ok (.ireturn, 1) := by decide +kernel
theorem dX7_ways_76 : decode cX7_ways 76 = .ok (.iload_n 3, 1) := by decide +kernel
theorem dX7_ways_77 : decode cX7_ways 77 = .ok (.ifCond .ne 8, 3) := by decide +kernel
theorem dX7_ways_80 : decode cX7_ways 80 = .ok (.bipush (-9), 2) := by decide +kernel
theorem dX7_ways_82 : decode cX7_ways 82 = .ok (.goto 16, 3) := by decide +kernel
theorem dX7_ways_85 : decode cX7_ways 85 = .ok (.aload_n 0, 1) := by decide +kernel
theorem dX7_ways_86 : decode cX7_ways 86 = .ok (.getfield 58, 3) := by decide +kernel
theorem dX7_ways_89 : decode cX7_ways 89 = .ok (.aload_n 0, 1) := by decide +kernel
theorem dX7_ways_90 : decode cX7_ways 90 = .ok (.getfield 20, 3) := by decide +kernel
theorem dX7_ways_93 : decode cX7_ways 93 = .ok (.iload_n 1, 1) := by decide +kernel
theorem dX7_ways_94 : decode cX7_ways 94 = .ok (.iload_n 2, 1) := by decide +kernel
theorem dX7_ways_95 : decode cX7_ways 95 = .ok (.invokevirtual 211, 3) := by decide +kernel
theorem dX7_ways_98 : decode cX7_ways 98 = .ok (.ireturn, 1) := by decide +kernel
set_option maxRecDepth 20000 in
theorem ggX7_kinds_X7_travelFor : GoodIn wsX7_kinds wsX7_travelFor := goodIn_r _ [7, 8, 1, 9, 2, 10, 11, 12, 6, 13, 14, 15, 16, 17, 18, 19, 20, 21, 22, 23, 24, 25, 26, 27, 28, 29, 30, 31, 32, 33, 34, 35, 36, 37, 38, 39, 40, 41, 42, 43, 44, 45, 46, 47, 48, 49, 50, 51, 52, 53, 54, 55, 56, 57, 58, 59, 60, 61, 62, 63, 64, 65, 66, 67, 68, 69, 70, 71, 72, 73, 74, 75, 76, 77, 78, 79, 80, 81, 82, 83, 84, 85, 86, 87, 88, 89, 90, 91, 92, 93, 94, 95, 96, 97, 98, 99, 100, 101, 102, 103, 104, 105, 106, 107, 108, 109, 136, 137, 138, 139, 140, 141, 142, 143, 144, 145, 146, 147, 148, 149, 150, 151, 152, 153, 154, 155, 156, 157, 158, 159] (by decide +kernel) (by decide +kernel)
set_option maxRecDepth 20000 in
theorem gX7_kinds_X7_travelFor : GoodIn wsX7_kinds (wsV RX7 212 RX7 yX7_travelFor wsX7_travelFor) := goodIn_app (goodIn_of _ (by decide +kernel)) ggX7_kinds_X7_travelFor
set_option maxRecDepth 20000 in
theorem ggX7_kinds_X2_mudOf : GoodIn wsX7_kinds wsX2_mudOf := goodIn_r _ [113, 114, 98, 16, 17, 18, 19, 20, 151, 152, 153, 154, 155, 156] (by decide +kernel) (by decide +kernel)
set_option maxRecDepth 20000 in
theorem gX7_kinds_X2_mudOf : GoodIn wsX7_kinds (wsV RX7 102 RX2 yX2_mudOf wsX2_mudOf) := goodIn_app (goodIn_of _ (by decide +kernel)) ggX7_kinds_X2_mudOf
set_option maxRecDepth 20000 in
theorem ggX7_kinds_X2_holdsIf : GoodIn wsX7_kinds wsX2_holdsIf := goodIn_r _ [118, 97, 86, 53, 54, 55, 98, 16, 17, 18, 19, 20, 151, 152, 153, 154, 155, 156] (by decide +kernel) (by decide +kernel)
set_option maxRecDepth 20000 in
theorem gX7_kinds_X2_holdsIf : GoodIn wsX7_kinds (wsV RX7 216 RX2 yX2_holdsIf wsX2_holdsIf) := goodIn_app (goodIn_of _ (by decide +kernel)) ggX7_kinds_X2_holdsIf
set_option maxRecDepth 20000 in
theorem ggX7_kinds_X0_dryParts : GoodIn wsX7_kinds wsX0_dryParts := goodIn_r _ [122, 59, 76, 60, 123, 124, 125, 18, 126, 127, 128, 129, 130, 131, 98, 16, 17, 19, 20, 132, 111, 112, 113, 114, 133, 116, 117, 118, 97, 86, 53, 54, 55, 134, 6, 135, 146, 147, 148, 149, 150, 151, 152, 153, 154, 155, 156] (by decide +kernel) (by decide +kernel)
set_option maxRecDepth 20000 in
theorem gX7_kinds_X0_dryParts : GoodIn wsX7_kinds (wsV RX7 154 RX0 yX0_dryParts wsX0_dryParts) := goodIn_app (goodIn_of _ (by decide +kernel)) ggX7_kinds_X0_dryParts
theorem dX7_kinds_0 : decode cX7_kinds 0 = .ok (.aload_n 0, 1) := by decide +kernel
theorem dX7_kinds_1 : decode cX7_kinds 1 = .ok (.iload_n 1, 1) := by decide +kernel
theorem dX7_kinds_2 : decode cX7_kinds 2 = .ok (.iload_n 2, 1) := by decide +kernel
theorem dX7_kinds_3 : decode cX7_kinds 3 = .ok (.iload_n 3, 1) := by decide +kernel
theorem dX7_kinds_4 : decode cX7_kinds 4 = .ok (.iload 4, 2) := by decide +kernel
theorem dX7_kinds_6 : decode cX7_kinds 6 = .ok (.iload 5, 2) := by decide +kernel
theorem dX7_kinds_8 : decode cX7_kinds 8 = .ok (.iload 6, 2) := by decide +kernel
theorem dX7_kinds_10 : decode cX7_kinds 10 = .ok (.invokevirtual 212, 3) := by decide +kernel
theorem dX7_kinds_13 : decode cX7_kinds 13 = .ok (.istore 7, 2) := by decide +kernel
theorem dX7_kinds_15 : decode cX7_kinds 15 = .ok (.iload 7, 2) := by decide +kernel
theorem dX7_kinds_17 : decode cX7_kinds 17 = .ok (.ifCond .eq 6, 3) := by decide +kernel
theorem dX7_kinds_20 : decode cX7_kinds 20 = .ok (.iload 7, 2) := by decide +kernel
theorem dX7_kinds_22 : decode cX7_kinds 22 = .ok (.ireturn, 1) := by decide +kernel
theorem dX7_kinds_23 : decode cX7_kinds 23 = .ok (.iconst 0, 1) := by decide +kernel
theorem dX7_kinds_24 : decode cX7_kinds 24 = .ok (.istore 8, 2) := by decide +kernel
theorem dX7_kinds_26 : decode cX7_kinds 26 = .ok (.iconst 0, 1) := by decide +kernel
theorem dX7_kinds_27 : decode cX7_kinds 27 = .ok (.istore 9, 2) := by decide +kernel
theorem dX7_kinds_29 : decode cX7_kinds 29 = .ok (.iload 9, 2) := by decide +kernel
theorem dX7_kinds_31 : decode cX7_kinds 31 = .ok (.iconst 2, 1) := by decide +kernel
theorem dX7_kinds_32 : decode cX7_kinds 32 = .ok (.if_icmp .gt 59, 3) := by decide +kernel
theorem dX7_kinds_35 : decode cX7_kinds 35 = .ok (.aload_n 0, 1) := by decide +kernel
theorem dX7_kinds_36 : decode cX7_kinds 36 = .ok (.getfield 20, 3) := by decide +kernel
theorem dX7_kinds_39 : decode cX7_kinds 39 = .ok (.iload_n 1, 1) := by decide +kernel
theorem dX7_kinds_40 : decode cX7_kinds 40 = .ok (.iload 9, 2) := by decide +kernel
theorem dX7_kinds_42 : decode cX7_kinds 42 = .ok (.aload_n 0, 1) := by decide +kernel
theorem dX7_kinds_43 : decode cX7_kinds 43 = .ok (.getfield 20, 3) := by decide +kernel
theorem dX7_kinds_46 : decode cX7_kinds 46 = .ok (.iload_n 1, 1) := by decide +kernel
theorem dX7_kinds_47 : decode cX7_kinds 47 = .ok (.invokevirtual 102, 3) := by decide +kernel
theorem dX7_kinds_50 : decode cX7_kinds 50 = .ok (.invokevirtual 216, 3) := by decide +kernel
theorem dX7_kinds_53 : decode cX7_kinds 53 = .ok (.istore 10, 2) := by decide +kernel
theorem dX7_kinds_55 : decode cX7_kinds 55 = .ok (.aload_n 0, 1) := by decide +kernel
theorem dX7_kinds_56 : decode cX7_kinds 56 = .ok (.getfield 37, 3) := by decide +kernel
theorem dX7_kinds_59 : decode cX7_kinds 59 = .ok (.aload_n 0, 1) := by decide +kernel
theorem dX7_kinds_60 : decode cX7_kinds 60 = .ok (.getfield 20, 3) := by decide +kernel
theorem dX7_kinds_63 : decode cX7_kinds 63 = .ok (.iload_n 1, 1) := by decide +kernel
theorem dX7_kinds_64 : decode cX7_kinds 64 = .ok (.iload 10, 2) := by decide +kernel
theorem dX7_kinds_66 : decode cX7_kinds 66 = .ok (.invokevirtual 154, 3) := by decide +kernel
theorem dX7_kinds_69 : decode cX7_kinds 69 = .ok (.iload 6, 2) := by decide +kernel
theorem dX7_kinds_71 : decode cX7_kinds 71 = .ok (.i2l, 1) := by decide +kernel
theorem dX7_kinds_72 : decode cX7_kinds 72 = .ok (.lcmp, 1) := by decide +kernel
theorem dX7_kinds_73 : decode cX7_kinds 73 = .ok (.ifCond .ne 12, 3) := by decide +kernel
theorem dX7_kinds_76 : decode cX7_kinds 76 = .ok (.iload 8, 2) := by decide +kernel
theorem dX7_kinds_78 : decode cX7_kinds 78 = .ok (.iconst 1, 1) := by decide +kernel
theorem dX7_kinds_79 : decode cX7_kinds 79 = .ok (.iload 9, 2) := by decide +kernel
theorem dX7_kinds_81 : decode cX7_kinds 81 = .ok (.ishl, 1) := by decide +kernel
theorem dX7_kinds_82 : decode cX7_kinds 82 = .ok (.ior, 1) := by decide +kernel
theorem dX7_kinds_83 : decode cX7_kinds 83 = .ok (.istore 8, 2) := by decide +kernel
theorem dX7_kinds_85 : decode cX7_kinds 85 = .ok (.iinc 9 1, 3) := by decide +kernel
theorem dX7_kinds_88 : decode cX7_kinds 88 = .ok (.goto (-59), 3) := by decide +kernel
theorem dX7_kinds_91 : decode cX7_kinds 91 = .ok (.iload 8, 2) := by decide +kernel
theorem dX7_kinds_93 : decode cX7_kinds 93 = .ok (.ireturn, 1) := by decide +kernel
set_option maxRecDepth 20000 in
theorem ggX7_muds_X7_travelFor : GoodIn wsX7_muds wsX7_travelFor := goodIn_r _ [7, 8, 1, 9, 2, 10, 11, 12, 6, 13, 14, 15, 16, 17, 18, 19, 20, 21, 22, 23, 24, 25, 26, 27, 28, 29, 30, 31, 32, 33, 34, 35, 36, 37, 38, 39, 40, 41, 42, 43, 44, 45, 46, 47, 48, 49, 50, 51, 52, 53, 54, 55, 56, 57, 58, 59, 60, 61, 62, 63, 64, 65, 66, 67, 68, 69, 70, 71, 72, 73, 74, 75, 76, 77, 78, 79, 80, 81, 82, 83, 84, 85, 86, 87, 88, 89, 90, 91, 92, 93, 94, 95, 96, 97, 98, 99, 100, 101, 102, 103, 104, 105, 106, 107, 108, 109, 136, 137, 138, 139, 140, 141, 142, 143, 144, 145, 146, 147, 148, 149, 150, 151, 152, 153, 154, 155, 156, 157, 158, 159] (by decide +kernel) (by decide +kernel)
set_option maxRecDepth 20000 in
theorem gX7_muds_X7_travelFor : GoodIn wsX7_muds (wsV RX7 212 RX7 yX7_travelFor wsX7_travelFor) := goodIn_app (goodIn_of _ (by decide +kernel)) ggX7_muds_X7_travelFor
set_option maxRecDepth 20000 in
theorem ggX7_muds_X2_kindOf : GoodIn wsX7_muds wsX2_kindOf := goodIn_r _ [113, 114, 98, 16, 17, 18, 19, 20, 151, 152, 153, 154, 155, 156] (by decide +kernel) (by decide +kernel)
set_option maxRecDepth 20000 in
theorem gX7_muds_X2_kindOf : GoodIn wsX7_muds (wsV RX7 99 RX2 yX2_kindOf wsX2_kindOf) := goodIn_app (goodIn_of _ (by decide +kernel)) ggX7_muds_X2_kindOf
set_option maxRecDepth 20000 in
theorem ggX7_muds_X2_holdsIf : GoodIn wsX7_muds wsX2_holdsIf := goodIn_r _ [118, 97, 86, 53, 54, 55, 98, 16, 17, 18, 19, 20, 151, 152, 153, 154, 155, 156] (by decide +kernel) (by decide +kernel)
set_option maxRecDepth 20000 in
theorem gX7_muds_X2_holdsIf : GoodIn wsX7_muds (wsV RX7 216 RX2 yX2_holdsIf wsX2_holdsIf) := goodIn_app (goodIn_of _ (by decide +kernel)) ggX7_muds_X2_holdsIf
set_option maxRecDepth 20000 in
theorem ggX7_muds_X0_dryParts : GoodIn wsX7_muds wsX0_dryParts := goodIn_r _ [122, 59, 76, 60, 123, 124, 125, 18, 126, 127, 111, 112, 113, 114, 98, 16, 17, 19, 20, 128, 129, 130, 131, 132, 133, 116, 117, 118, 97, 86, 53, 54, 55, 134, 6, 135, 146, 147, 148, 149, 150, 151, 152, 153, 154, 155, 156] (by decide +kernel) (by decide +kernel)
set_option maxRecDepth 20000 in
theorem gX7_muds_X0_dryParts : GoodIn wsX7_muds (wsV RX7 154 RX0 yX0_dryParts wsX0_dryParts) := goodIn_app (goodIn_of _ (by decide +kernel)) ggX7_muds_X0_dryParts
theorem dX7_muds_0 : decode cX7_muds 0 = .ok (.aload_n 0, 1) := by decide +kernel
theorem dX7_muds_1 : decode cX7_muds 1 = .ok (.iload_n 1, 1) := by decide +kernel
theorem dX7_muds_2 : decode cX7_muds 2 = .ok (.iload_n 2, 1) := by decide +kernel
theorem dX7_muds_3 : decode cX7_muds 3 = .ok (.iload_n 3, 1) := by decide +kernel
theorem dX7_muds_4 : decode cX7_muds 4 = .ok (.iload 4, 2) := by decide +kernel
theorem dX7_muds_6 : decode cX7_muds 6 = .ok (.iload 5, 2) := by decide +kernel
theorem dX7_muds_8 : decode cX7_muds 8 = .ok (.iload 6, 2) := by decide +kernel
theorem dX7_muds_10 : decode cX7_muds 10 = .ok (.invokevirtual 212, 3) := by decide +kernel
theorem dX7_muds_13 : decode cX7_muds 13 = .ok (.istore 7, 2) := by decide +kernel
theorem dX7_muds_15 : decode cX7_muds 15 = .ok (.iload 7, 2) := by decide +kernel
theorem dX7_muds_17 : decode cX7_muds 17 = .ok (.ifCond .eq 6, 3) := by decide +kernel
theorem dX7_muds_20 : decode cX7_muds 20 = .ok (.iload 7, 2) := by decide +kernel
theorem dX7_muds_22 : decode cX7_muds 22 = .ok (.ireturn, 1) := by decide +kernel
theorem dX7_muds_23 : decode cX7_muds 23 = .ok (.iconst 0, 1) := by decide +kernel
theorem dX7_muds_24 : decode cX7_muds 24 = .ok (.istore 8, 2) := by decide +kernel
theorem dX7_muds_26 : decode cX7_muds 26 = .ok (.iconst 0, 1) := by decide +kernel
theorem dX7_muds_27 : decode cX7_muds 27 = .ok (.istore 9, 2) := by decide +kernel
theorem dX7_muds_29 : decode cX7_muds 29 = .ok (.iload 9, 2) := by decide +kernel
theorem dX7_muds_31 : decode cX7_muds 31 = .ok (.bipush 9, 2) := by decide +kernel
theorem dX7_muds_33 : decode cX7_muds 33 = .ok (.if_icmp .gt 59, 3) := by decide +kernel
theorem dX7_muds_36 : decode cX7_muds 36 = .ok (.aload_n 0, 1) := by decide +kernel
theorem dX7_muds_37 : decode cX7_muds 37 = .ok (.getfield 20, 3) := by decide +kernel
theorem dX7_muds_40 : decode cX7_muds 40 = .ok (.iload_n 1, 1) := by decide +kernel
theorem dX7_muds_41 : decode cX7_muds 41 = .ok (.aload_n 0, 1) := by decide +kernel
theorem dX7_muds_42 : decode cX7_muds 42 = .ok (.getfield 20, 3) := by decide +kernel
theorem dX7_muds_45 : decode cX7_muds 45 = .ok (.iload_n 1, 1) := by decide +kernel
theorem dX7_muds_46 : decode cX7_muds 46 = .ok (.invokevirtual 99, 3) := by decide +kernel
theorem dX7_muds_49 : decode cX7_muds 49 = .ok (.iload 9, 2) := by decide +kernel
theorem dX7_muds_51 : decode cX7_muds 51 = .ok (.invokevirtual 216, 3) := by decide +kernel
theorem dX7_muds_54 : decode cX7_muds 54 = .ok (.istore 10, 2) := by decide +kernel
theorem dX7_muds_56 : decode cX7_muds 56 = .ok (.aload_n 0, 1) := by decide +kernel
theorem dX7_muds_57 : decode cX7_muds 57 = .ok (.getfield 37, 3) := by decide +kernel
theorem dX7_muds_60 : decode cX7_muds 60 = .ok (.aload_n 0, 1) := by decide +kernel
theorem dX7_muds_61 : decode cX7_muds 61 = .ok (.getfield 20, 3) := by decide +kernel
theorem dX7_muds_64 : decode cX7_muds 64 = .ok (.iload_n 1, 1) := by decide +kernel
theorem dX7_muds_65 : decode cX7_muds 65 = .ok (.iload 10, 2) := by decide +kernel
theorem dX7_muds_67 : decode cX7_muds 67 = .ok (.invokevirtual 154, 3) := by decide +kernel
theorem dX7_muds_70 : decode cX7_muds 70 = .ok (.iload 6, 2) := by decide +kernel
theorem dX7_muds_72 : decode cX7_muds 72 = .ok (.i2l, 1) := by decide +kernel
theorem dX7_muds_73 : decode cX7_muds 73 = .ok (.lcmp, 1) := by decide +kernel
theorem dX7_muds_74 : decode cX7_muds 74 = .ok (.ifCond .ne 12, 3) := by decide +kernel
theorem dX7_muds_77 : decode cX7_muds 77 = .ok (.iload 8, 2) := by decide +kernel
theorem dX7_muds_79 : decode cX7_muds 79 = .ok (.iconst 1, 1) := by decide +kernel
theorem dX7_muds_80 : decode cX7_muds 80 = .ok (.iload 9, 2) := by decide +kernel
theorem dX7_muds_82 : decode cX7_muds 82 = .ok (.ishl, 1) := by decide +kernel
theorem dX7_muds_83 : decode cX7_muds 83 = .ok (.ior, 1) := by decide +kernel
theorem dX7_muds_84 : decode cX7_muds 84 = .ok (.istore 8, 2) := by decide +kernel
theorem dX7_muds_86 : decode cX7_muds 86 = .ok (.iinc 9 1, 3) := by decide +kernel
theorem dX7_muds_89 : decode cX7_muds 89 = .ok (.goto (-60), 3) := by decide +kernel
theorem dX7_muds_92 : decode cX7_muds 92 = .ok (.iload 8, 2) := by decide +kernel
theorem dX7_muds_94 : decode cX7_muds 94 = .ok (.ireturn, 1) := by decide +kernel
set_option maxRecDepth 20000 in
theorem ggX7_odds_X7_isUpperOrLower : GoodIn wsX7_odds wsX7_isUpperOrLower := goodIn_r _ [6] (by decide +kernel) (by decide +kernel)
set_option maxRecDepth 20000 in
theorem gX7_odds_X7_isUpperOrLower : GoodIn wsX7_odds (va_wsS RX7 149 yX7_isUpperOrLower wsX7_isUpperOrLower) := goodIn_app (goodIn_of _ (by decide +kernel)) ggX7_odds_X7_isUpperOrLower
set_option maxRecDepth 20000 in
theorem ggX7_odds_X7_travel : GoodIn wsX7_odds wsX7_travel := goodIn_r _ [10, 11, 12, 13, 14, 15, 5, 16, 17, 18, 19, 20, 21, 22, 23, 24, 25, 26, 27, 28, 29, 30, 1, 31, 32, 33, 34, 35, 36, 37, 38, 39, 40, 41, 42, 43, 44, 45, 46, 47, 48, 49, 50, 51, 52, 53, 54, 55, 56, 57, 58, 59, 60, 61, 62, 63, 64, 65, 66, 67, 68, 69, 70, 71, 72, 73, 74, 75, 76, 77, 78, 79, 80, 81, 82, 83, 84, 85, 86, 87, 88, 89, 90, 91, 92, 93, 94, 95, 96, 97, 98, 99, 100, 101, 102, 103, 104, 105, 106, 107, 108, 109, 110, 111, 112, 113, 114, 115, 130, 131, 132, 133, 134, 135, 136, 137, 138, 139, 145, 146, 147, 148, 149, 150, 151, 152, 153, 140, 141, 142, 143, 144] (by decide +kernel) (by decide +kernel)
set_option maxRecDepth 20000 in
theorem gX7_odds_X7_travel : GoodIn wsX7_odds (wsV RX7 133 RX7 yX7_travel wsX7_travel) := goodIn_app (goodIn_of _ (by decide +kernel)) ggX7_odds_X7_travel
set_option maxRecDepth 20000 in
theorem ggX7_odds_X0_poledCells : GoodIn wsX7_odds wsX0_poledCells := goodIn_r _ [119, 62, 63, 79, 120, 121, 122, 123, 124, 125, 126, 140, 141, 142, 143, 144] (by decide +kernel) (by decide +kernel)
set_option maxRecDepth 20000 in
theorem gX7_odds_X0_poledCells : GoodIn wsX7_odds (wsV RX7 220 RX0 yX0_poledCells wsX0_poledCells) := goodIn_app (goodIn_of _ (by decide +kernel)) ggX7_odds_X0_poledCells
set_option maxRecDepth 20000 in
theorem ggX7_odds_X7_inLeastTerms : GoodIn wsX7_odds wsX7_inLeastTerms := goodIn_r _ [129] (by decide +kernel) (by decide +kernel)
set_option maxRecDepth 20000 in
theorem gX7_odds_X7_inLeastTerms : GoodIn wsX7_odds (va_wsS RX7 162 yX7_inLeastTerms wsX7_inLeastTerms) := goodIn_app (goodIn_of _ (by decide +kernel)) ggX7_odds_X7_inLeastTerms
theorem dX7_odds_0 : decode cX7_odds 0 = .ok (.aload_n 0, 1) := by decide +kernel
theorem dX7_odds_1 : decode cX7_odds 1 = .ok (.iload_n 1, 1) := by decide +kernel
theorem dX7_odds_2 : decode cX7_odds 2 = .ok (.iload_n 2, 1) := by decide +kernel
theorem dX7_odds_3 : decode cX7_odds 3 = .ok (.iload_n 3, 1) := by decide +kernel
theorem dX7_odds_4 : decode cX7_odds 4 = .ok (.iload 4, 2) := by decide +kernel
theorem dX7_odds_6 : decode cX7_odds 6 = .ok (.iload 5, 2) := by decide +kernel
theorem dX7_odds_8 : decode cX7_odds 8 = .ok (.invokestatic 149, 3) := by decide +kernel
theorem dX7_odds_11 : decode cX7_odds 11 = .ok (.invokevirtual 133, 3) := by decide +kernel
theorem dX7_odds_14 : decode cX7_odds 14 = .ok (.istore 6, 2) := by decide +kernel
theorem dX7_odds_16 : decode cX7_odds 16 = .ok (.iload 6, 2) := by decide +kernel
theorem dX7_odds_18 : decode cX7_odds 18 = .ok (.ifCond .ne 15, 3) := by decide +kernel
theorem dX7_odds_21 : decode cX7_odds 21 = .ok (.aload_n 0, 1) := by decide +kernel
theorem dX7_odds_22 : decode cX7_odds 22 = .ok (.getfield 37, 3) := by decide +kernel
theorem dX7_odds_25 : decode cX7_odds 25 = .ok (.getfield 137, 3) := by decide +kernel
theorem dX7_odds_28 : decode cX7_odds 28 = .ok (.bipush (-9), 2) := by decide +kernel
theorem dX7_odds_30 : decode cX7_odds 30 = .ok (.if_icmp .eq 7, 3) := by decide +kernel
theorem dX7_odds_33 : decode cX7_odds 33 = .ok (.ldc2_w 152, 3) := by decide +kernel
theorem dX7_odds_36 : decode cX7_odds 36 = .ok (.lreturn, 1) := by decide +kernel
theorem dX7_odds_37 : decode cX7_odds 37 = .ok (.lconst 1, 1) := by decide +kernel
theorem dX7_odds_38 : decode cX7_odds 38 = .ok (.lconst 1, 1) := by decide +kernel
theorem dX7_odds_39 : decode cX7_odds 39 = .ok (.aload_n 0, 1) := by decide +kernel
theorem dX7_odds_40 : decode cX7_odds 40 = .ok (.getfield 37, 3) := by decide +kernel
theorem dX7_odds_43 : decode cX7_odds 43 = .ok (.invokevirtual 220, 3) := by decide +kernel
theorem dX7_odds_46 : decode cX7_odds 46 = .ok (.lshl, 1) := by decide +kernel
theorem dX7_odds_47 : decode cX7_odds 47 = .ok (.iload 5, 2) := by decide +kernel
theorem dX7_odds_49 : decode cX7_odds 49 = .ok (.invokestatic 162, 3) := by decide +kernel
theorem dX7_odds_52 : decode cX7_odds 52 = .ok (.lreturn, 1) := by decide +kernel
set_option maxRecDepth 20000 in
theorem ggX7_travelFor_X7_rowOf : GoodIn wsX7_travelFor wsX7_rowOf := goodIn_r _ [9, 10, 106, 107, 108, 109, 110, 111, 112, 113, 114, 115] (by decide +kernel) (by decide +kernel)
set_option maxRecDepth 20000 in
theorem gX7_travelFor_X7_rowOf : GoodIn wsX7_travelFor (wsV RX7 67 RX7 yX7_rowOf wsX7_rowOf) := goodIn_app (goodIn_of _ (by decide +kernel)) ggX7_travelFor_X7_rowOf
set_option maxRecDepth 20000 in
theorem ggX7_travelFor_X2_has : GoodIn wsX7_travelFor wsX2_has := goodIn_r _ [15, 16, 121, 122, 123, 124, 125, 126] (by decide +kernel) (by decide +kernel)
set_option maxRecDepth 20000 in
theorem gX7_travelFor_X2_has : GoodIn wsX7_travelFor (wsV RX7 96 RX2 yX2_has wsX2_has) := goodIn_app (goodIn_of _ (by decide +kernel)) ggX7_travelFor_X2_has
set_option maxRecDepth 20000 in
theorem ggX7_travelFor_X7_isLane : GoodIn wsX7_travelFor wsX7_isLane := goodIn_r _ [19] (by decide +kernel) (by decide +kernel)
set_option maxRecDepth 20000 in
theorem gX7_travelFor_X7_isLane : GoodIn wsX7_travelFor (va_wsS RX7 71 yX7_isLane wsX7_isLane) := goodIn_app (goodIn_of _ (by decide +kernel)) ggX7_travelFor_X7_isLane
set_option maxRecDepth 20000 in
theorem ggX7_travelFor_X7_carryOut : GoodIn wsX7_travelFor wsX7_carryOut := goodIn_r _ [23, 4, 2, 24, 25, 26, 27, 28, 29, 30, 31, 32, 33, 34, 35, 36, 8, 37, 1, 38, 39, 40, 41, 42, 43, 44, 45, 46, 47, 48, 49, 50, 51, 52, 53, 54, 55, 56, 57, 58, 59, 60, 61, 62, 63, 64, 65, 66, 67, 68, 69, 70, 71, 72, 73, 74, 75, 14, 76, 77, 78, 79, 80, 81, 82, 83, 84, 85, 86, 87, 88, 16, 89, 90, 91, 92, 93, 94, 12, 13, 15, 95, 96, 97, 98, 99, 100, 101, 102, 103, 104, 105, 106, 107, 108, 109, 110, 111, 112, 113, 114, 115, 127, 128, 129, 116, 117, 118, 119, 120, 121, 122, 123, 124, 125, 126] (by decide +kernel) (by decide +kernel)
set_option maxRecDepth 20000 in
theorem gX7_travelFor_X7_carryOut : GoodIn wsX7_travelFor (wsV RX7 166 RX7 yX7_carryOut wsX7_carryOut) := goodIn_app (goodIn_of _ (by decide +kernel)) ggX7_travelFor_X7_carryOut
theorem dX7_travelFor_0 : decode cX7_travelFor 0 = .ok (.aload_n 0, 1) := by decide +kernel
theorem dX7_travelFor_1 : decode cX7_travelFor 1 = .ok (.iconst 0, 1) := by decide +kernel
theorem dX7_travelFor_2 : decode cX7_travelFor 2 = .ok (.putfield 63, 3) := by decide +kernel
theorem dX7_travelFor_5 : decode cX7_travelFor 5 = .ok (.aload_n 0, 1) := by decide +kernel
theorem dX7_travelFor_6 : decode cX7_travelFor 6 = .ok (.iload_n 2, 1) := by decide +kernel
theorem dX7_travelFor_7 : decode cX7_travelFor 7 = .ok (.invokevirtual 67, 3) := by decide +kernel
theorem dX7_travelFor_10 : decode cX7_travelFor 10 = .ok (.astore 7, 2) := by decide +kernel
theorem dX7_travelFor_12 : decode cX7_travelFor 12 = .ok (.aload_n 0, 1) := by decide +kernel
theorem dX7_travelFor_13 : decode cX7_travelFor 13 = .ok (.getfield 20, 3) := by decide +kernel
theorem dX7_travelFor_16 : decode cX7_travelFor 16 = .ok (.iload_n 1, 1) := by decide +kernel
theorem dX7_travelFor_17 : decode cX7_travelFor 17 = .ok (.invokevirtual 96, 3) := by decide +kernel
theorem dX7_travelFor_20 : decode cX7_travelFor 20 = .ok (.ifCond .eq 8, 3) := by decide +kernel
theorem dX7_travelFor_23 : decode cX7_travelFor 23 = .ok (.aload 7, 2) := by decide +kernel
theorem dX7_travelFor_25 : decode cX7_travelFor 25 = .ok (.ifnonnull 5, 3) := by decide +kernel
theorem dX7_travelFor_28 : decode cX7_travelFor 28 = .ok (.iconst (-1), 1) := by decide +kernel
theorem dX7_travelFor_29 : decode cX7_travelFor 29 = .ok (.ireturn, 1) := by decide +kernel
theorem dX7_travelFor_30 : decode cX7_travelFor 30 = .ok (.iload_n 3, 1) := by decide +kernel
theorem dX7_travelFor_31 : decode cX7_travelFor 31 = .ok (.invokestatic 71, 3) := by decide +kernel
theorem dX7_travelFor_34 : decode cX7_travelFor 34 = .ok (.ifCond .eq 27, 3) := by decide +kernel
theorem dX7_travelFor_37 : decode cX7_travelFor 37 = .ok (.iload 5, 2) := by decide +kernel
theorem dX7_travelFor_39 : decode cX7_travelFor 39 = .ok (.ifCond .lt 22, 3) := by decide +kernel
theorem dX7_travelFor_42 : decode cX7_travelFor 42 = .ok (.iload 5, 2) := by decide +kernel
theorem dX7_travelFor_44 : decode cX7_travelFor 44 = .ok (.bipush 9, 2) := by decide +kernel
theorem dX7_travelFor_46 : decode cX7_travelFor 46 = .ok (.if_icmp .gt 15, 3) := by decide +kernel
theorem dX7_travelFor_49 : decode cX7_travelFor 49 = .ok (.iload 6, 2) := by decide +kernel
theorem dX7_travelFor_51 : decode cX7_travelFor 51 = .ok (.ifCond .lt 10, 3) := by decide +kernel
theorem dX7_travelFor_54 : decode cX7_travelFor 54 = .ok (.iload 6, 2) := by decide +kernel
theorem dX7_travelFor_56 : decode cX7_travelFor 56 = .ok (.ldc 223, 2) := by decide +kernel
theorem dX7_travelFor_58 : decode cX7_travelFor 58 = .ok (.if_icmp .le 6, 3) := by decide +kernel
theorem dX7_travelFor_61 : decode cX7_travelFor 61 = .ok (.bipush (-2), 2) := by decide +kernel
theorem dX7_travelFor_63 : decode cX7_travelFor 63 = .ok (.ireturn, 1) := by decide +kernel
theorem dX7_travelFor_64 : decode cX7_travelFor 64 = .ok (.aload_n 0, 1) := by decide +kernel
theorem dX7_travelFor_65 : decode cX7_travelFor 65 = .ok (.aload 7, 2) := by decide +kernel
theorem dX7_travelFor_67 : decode cX7_travelFor 67 = .ok (.iload_n 3, 1) := by decide +kernel
theorem dX7_travelFor_68 : decode cX7_travelFor 68 = .ok (.iload 4, 2) := by decide +kernel
theorem dX7_travelFor_70 : decode cX7_travelFor 70 = .ok (.iload 5, 2) := by decide +kernel
theorem dX7_travelFor_72 : decode cX7_travelFor 72 = .ok (.invokevirtual 166, 3) := by decide +kernel
theorem dX7_travelFor_75 : decode cX7_travelFor 75 = .ok (.istore 8, 2) := by decide +kernel
theorem dX7_travelFor_77 : decode cX7_travelFor 77 = .ok (.iload 8, 2) := by decide +kernel
theorem dX7_travelFor_79 : decode cX7_travelFor 79 = .ok (.ifCond .ne 26, 3) := by decide +kernel
theorem dX7_travelFor_82 : decode cX7_travelFor 82 = .ok (.aload_n 0, 1) := by decide +kernel
theorem dX7_travelFor_83 : decode cX7_travelFor 83 = .ok (.getfield 37, 3) := by decide +kernel
theorem dX7_travelFor_86 : decode cX7_travelFor 86 = .ok (.getfield 137, 3) := by decide +kernel
theorem dX7_travelFor_89 : decode cX7_travelFor 89 = .ok (.bipush (-9), 2) := by decide +kernel
theorem dX7_travelFor_91 : decode cX7_travelFor 91 = .ok (.if_icmp .eq 14, 3) := by decide +kernel
theorem dX7_travelFor_94 : decode cX7_travelFor 94 = .ok (.bipush (-100), 2) := by decide +kernel
theorem dX7_travelFor_96 : decode cX7_travelFor 96 = .ok (.aload_n 0, 1) := by decide +kernel
theorem dX7_travelFor_97 : decode cX7_travelFor 97 = .ok (.getfield 37, 3) := by decide +kernel
theorem dX7_travelFor_100 : decode cX7_travelFor 100 = .ok (.getfield 137, 3) := by decide +kernel
theorem dX7_travelFor_103 : decode cX7_travelFor 103 = .ok (.isub, 1) := by decide +kernel
theorem dX7_travelFor_104 : decode cX7_travelFor 104 = .ok (.ireturn, 1) := by decide +kernel
theorem dX7_travelFor_105 : decode cX7_travelFor 105 = .ok (.iload 8, 2) := by decide +kernel
theorem dX7_travelFor_107 : decode cX7_travelFor 107 = .ok (.ireturn, 1) := by decide +kernel
set_option maxRecDepth 20000 in
theorem ggX7_sheet_X7_rowOf : GoodIn wsX7_sheet wsX7_rowOf := goodIn_r _ [6, 7, 34, 35, 36, 37, 38, 39, 40, 41, 42, 43] (by decide +kernel) (by decide +kernel)
set_option maxRecDepth 20000 in
theorem gX7_sheet_X7_rowOf : GoodIn wsX7_sheet (wsV RX7 67 RX7 yX7_rowOf wsX7_rowOf) := goodIn_app (goodIn_of _ (by decide +kernel)) ggX7_sheet_X7_rowOf
set_option maxRecDepth 20000 in
theorem ggX7_sheet_X7_isLane : GoodIn wsX7_sheet wsX7_isLane := goodIn_r _ [10] (by decide +kernel) (by decide +kernel)
set_option maxRecDepth 20000 in
theorem gX7_sheet_X7_isLane : GoodIn wsX7_sheet (va_wsS RX7 71 yX7_isLane wsX7_isLane) := goodIn_app (goodIn_of _ (by decide +kernel)) ggX7_sheet_X7_isLane
set_option maxRecDepth 20000 in
theorem ggX7_sheet_X7_failed : GoodIn wsX7_sheet wsX7_failed := goodIn_r _ [14, 1, 34, 35, 36, 37, 38, 39, 40, 41, 42, 43] (by decide +kernel) (by decide +kernel)
set_option maxRecDepth 20000 in
theorem gX7_sheet_X7_failed : GoodIn wsX7_sheet (wsV RX7 79 RX7 yX7_failed wsX7_failed) := goodIn_app (goodIn_of _ (by decide +kernel)) ggX7_sheet_X7_failed
set_option maxRecDepth 20000 in
theorem ggX7_sheet_X3_begin : GoodIn wsX7_sheet wsX3_begin := goodIn_r _ [19, 20, 21, 22, 23, 24, 25, 26, 27, 28, 29, 30, 31, 32, 33, 44, 45, 46] (by decide +kernel) (by decide +kernel)
set_option maxRecDepth 20000 in
theorem gX7_sheet_X3_begin : GoodIn wsX7_sheet (wsV RX7 224 RX3 yX3_begin wsX3_begin) := goodIn_app (goodIn_of _ (by decide +kernel)) ggX7_sheet_X3_begin
theorem dX7_sheet_0 : decode cX7_sheet 0 = .ok (.aload_n 0, 1) := by decide +kernel
theorem dX7_sheet_1 : decode cX7_sheet 1 = .ok (.iconst 0, 1) := by decide +kernel
theorem dX7_sheet_2 : decode cX7_sheet 2 = .ok (.putfield 63, 3) := by decide +kernel
theorem dX7_sheet_5 : decode cX7_sheet 5 = .ok (.aload_n 0, 1) := by decide +kernel
theorem dX7_sheet_6 : decode cX7_sheet 6 = .ok (.iload_n 1, 1) := by decide +kernel
theorem dX7_sheet_7 : decode cX7_sheet 7 = .ok (.invokevirtual 67, 3) := by decide +kernel
theorem dX7_sheet_10 : decode cX7_sheet 10 = .ok (.astore 4, 2) := by decide +kernel
theorem dX7_sheet_12 : decode cX7_sheet 12 = .ok (.aload 4, 2) := by decide +kernel
theorem dX7_sheet_14 : decode cX7_sheet 14 = .ok (.ifnonnull 5, 3) := by decide +kernel
theorem dX7_sheet_17 : decode cX7_sheet 17 = .ok (.iconst (-1), 1) := by decide +kernel
theorem dX7_sheet_18 : decode cX7_sheet 18 = .ok (.ireturn, 1) := by decide +kernel
theorem dX7_sheet_19 : decode cX7_sheet 19 = .ok (.iload_n 2, 1) := by decide +kernel
theorem dX7_sheet_20 : decode cX7_sheet 20 = .ok (.invokestatic 71, 3) := by decide +kernel
theorem dX7_sheet_23 : decode cX7_sheet 23 = .ok (.ifCond .eq 9, 3) := by decide +kernel
theorem dX7_sheet_26 : decode cX7_sheet 26 = .ok (.iload_n 3, 1) := by decide +kernel
theorem dX7_sheet_27 : decode cX7_sheet 27 = .ok (.bipush 60, 2) := by decide +kernel
theorem dX7_sheet_29 : decode cX7_sheet 29 = .ok (.if_icmp .le 6, 3) := by decide +kernel
theorem dX7_sheet_32 : decode cX7_sheet 32 = .ok (.bipush (-2), 2) := by decide +kernel
theorem dX7_sheet_34 : decode cX7_sheet 34 = .ok (.ireturn, 1) := by decide +kernel
theorem dX7_sheet_35 : decode cX7_sheet 35 = .ok (.iload_n 3, 1) := by decide +kernel
theorem dX7_sheet_36 : decode cX7_sheet 36 = .ok (.ifCond .ge 9, 3) := by decide +kernel
theorem dX7_sheet_39 : decode cX7_sheet 39 = .ok (.aload_n 0, 1) := by decide +kernel
theorem dX7_sheet_40 : decode cX7_sheet 40 = .ok (.iconst 4, 1) := by decide +kernel
theorem dX7_sheet_41 : decode cX7_sheet 41 = .ok (.invokevirtual 79, 3) := by decide +kernel
theorem dX7_sheet_44 : decode cX7_sheet 44 = .ok (.ireturn, 1) := by decide +kernel
theorem dX7_sheet_45 : decode cX7_sheet 45 = .ok (.aload 4, 2) := by decide +kernel
theorem dX7_sheet_47 : decode cX7_sheet 47 = .ok (.iload_n 2, 1) := by decide +kernel
theorem dX7_sheet_48 : decode cX7_sheet 48 = .ok (.iload_n 3, 1) := by decide +kernel
theorem dX7_sheet_49 : decode cX7_sheet 49 = .ok (.invokevirtual 224, 3) := by decide +kernel
theorem dX7_sheet_52 : decode cX7_sheet 52 = .ok (.iconst 1, 1) := by decide +kernel
theorem dX7_sheet_53 : decode cX7_sheet 53 = .ok (.ireturn, 1) := by decide +kernel
set_option maxRecDepth 20000 in
theorem ggX7_lose_X7_rowOf : GoodIn wsX7_lose wsX7_rowOf := goodIn_r _ [5, 6, 33, 34, 35, 36, 37, 38, 39, 40, 41, 42] (by decide +kernel) (by decide +kernel)
set_option maxRecDepth 20000 in
theorem gX7_lose_X7_rowOf : GoodIn wsX7_lose (wsV RX7 67 RX7 yX7_rowOf wsX7_rowOf) := goodIn_app (goodIn_of _ (by decide +kernel)) ggX7_lose_X7_rowOf
set_option maxRecDepth 20000 in
theorem ggX7_lose_X3_isNothing : GoodIn wsX7_lose wsX3_isNothing := goodIn_r _ [11, 12, 43, 44, 45] (by decide +kernel) (by decide +kernel)
set_option maxRecDepth 20000 in
theorem gX7_lose_X3_isNothing : GoodIn wsX7_lose (wsV RX7 227 RX3 yX3_isNothing wsX3_isNothing) := goodIn_app (goodIn_of _ (by decide +kernel)) ggX7_lose_X3_isNothing
set_option maxRecDepth 20000 in
theorem ggX7_lose_X7_asBit : GoodIn wsX7_lose wsX7_asBit := goodIn_r _ [15] (by decide +kernel) (by decide +kernel)
set_option maxRecDepth 20000 in
theorem gX7_lose_X7_asBit : GoodIn wsX7_lose (va_wsS RX7 111 yX7_asBit wsX7_asBit) := goodIn_app (goodIn_of _ (by decide +kernel)) ggX7_lose_X7_asBit
set_option maxRecDepth 20000 in
theorem ggX7_lose_X3_begin : GoodIn wsX7_lose wsX3_begin := goodIn_r _ [19, 20, 12, 21, 22, 23, 24, 25, 26, 27, 28, 29, 30, 31, 32, 43, 44, 45] (by decide +kernel) (by decide +kernel)
set_option maxRecDepth 20000 in
theorem gX7_lose_X3_begin : GoodIn wsX7_lose (wsV RX7 224 RX3 yX3_begin wsX3_begin) := goodIn_app (goodIn_of _ (by decide +kernel)) ggX7_lose_X3_begin
theorem dX7_lose_0 : decode cX7_lose 0 = .ok (.aload_n 0, 1) := by decide +kernel
theorem dX7_lose_1 : decode cX7_lose 1 = .ok (.iload_n 1, 1) := by decide +kernel
theorem dX7_lose_2 : decode cX7_lose 2 = .ok (.invokevirtual 67, 3) := by decide +kernel
theorem dX7_lose_5 : decode cX7_lose 5 = .ok (.astore_n 2, 1) := by decide +kernel
theorem dX7_lose_6 : decode cX7_lose 6 = .ok (.aload_n 2, 1) := by decide +kernel
theorem dX7_lose_7 : decode cX7_lose 7 = .ok (.ifnonnull 5, 3) := by decide +kernel
theorem dX7_lose_10 : decode cX7_lose 10 = .ok (.iconst (-1), 1) := by decide +kernel
theorem dX7_lose_11 : decode cX7_lose 11 = .ok (.ireturn, 1) := by decide +kernel
theorem dX7_lose_12 : decode cX7_lose 12 = .ok (.aload_n 2, 1) := by decide +kernel
theorem dX7_lose_13 : decode cX7_lose 13 = .ok (.invokevirtual 227, 3) := by decide +kernel
theorem dX7_lose_16 : decode cX7_lose 16 = .ok (.ifCond .ne 7, 3) := by decide +kernel
theorem dX7_lose_19 : decode cX7_lose 19 = .ok (.iconst 1, 1) := by decide +kernel
theorem dX7_lose_20 : decode cX7_lose 20 = .ok (.goto 4, 3) := by decide +kernel
theorem dX7_lose_23 : decode cX7_lose 23 = .ok (.iconst 0, 1) := by decide +kernel
theorem dX7_lose_24 : decode cX7_lose 24 = .ok (.invokestatic 111, 3) := by decide +kernel
theorem dX7_lose_27 : decode cX7_lose 27 = .ok (.istore_n 3, 1) := by decide +kernel
theorem dX7_lose_28 : decode cX7_lose 28 = .ok (.aload_n 2, 1) := by decide +kernel
theorem dX7_lose_29 : decode cX7_lose 29 = .ok (.iconst (-1), 1) := by decide +kernel
theorem dX7_lose_30 : decode cX7_lose 30 = .ok (.iconst 0, 1) := by decide +kernel
theorem dX7_lose_31 : decode cX7_lose 31 = .ok (.invokevirtual 224, 3) := by decide +kernel
theorem dX7_lose_34 : decode cX7_lose 34 = .ok (.iload_n 3, 1) := by decide +kernel
theorem dX7_lose_35 : decode cX7_lose 35 = .ok (.ireturn, 1) := by decide +kernel
set_option maxRecDepth 20000 in
theorem ggX7_put_X7_rowOf : GoodIn wsX7_put wsX7_rowOf := goodIn_r _ [6, 7, 33, 34, 35, 36, 37, 38, 39, 40, 41, 42] (by decide +kernel) (by decide +kernel)
set_option maxRecDepth 20000 in
theorem gX7_put_X7_rowOf : GoodIn wsX7_put (wsV RX7 67 RX7 yX7_rowOf wsX7_rowOf) := goodIn_app (goodIn_of _ (by decide +kernel)) ggX7_put_X7_rowOf
set_option maxRecDepth 20000 in
theorem ggX7_put_X3_isNothing : GoodIn wsX7_put wsX3_isNothing := goodIn_r _ [12, 13, 43, 44, 45] (by decide +kernel) (by decide +kernel)
set_option maxRecDepth 20000 in
theorem gX7_put_X3_isNothing : GoodIn wsX7_put (wsV RX7 227 RX3 yX3_isNothing wsX3_isNothing) := goodIn_app (goodIn_of _ (by decide +kernel)) ggX7_put_X3_isNothing
set_option maxRecDepth 20000 in
theorem ggX7_put_X7_failed : GoodIn wsX7_put wsX7_failed := goodIn_r _ [17, 1, 33, 34, 35, 36, 37, 38, 39, 40, 41, 42] (by decide +kernel) (by decide +kernel)
set_option maxRecDepth 20000 in
theorem gX7_put_X7_failed : GoodIn wsX7_put (wsV RX7 79 RX7 yX7_failed wsX7_failed) := goodIn_app (goodIn_of _ (by decide +kernel)) ggX7_put_X7_failed
set_option maxRecDepth 20000 in
theorem ggX7_put_X3_has : GoodIn wsX7_put wsX3_has := goodIn_r _ [21, 22, 43, 44, 45] (by decide +kernel) (by decide +kernel)
set_option maxRecDepth 20000 in
theorem gX7_put_X3_has : GoodIn wsX7_put (wsV RX7 230 RX3 yX3_has wsX3_has) := goodIn_app (goodIn_of _ (by decide +kernel)) ggX7_put_X3_has
set_option maxRecDepth 20000 in
theorem ggX7_put_X3_become : GoodIn wsX7_put wsX3_become := goodIn_r _ [26, 27, 28, 19, 20, 11, 21, 22, 29, 30, 31, 32, 13, 43, 44, 45] (by decide +kernel) (by decide +kernel)
set_option maxRecDepth 20000 in
theorem gX7_put_X3_become : GoodIn wsX7_put (wsV RX7 231 RX3 yX3_become wsX3_become) := goodIn_app (goodIn_of _ (by decide +kernel)) ggX7_put_X3_become
theorem dX7_put_0 : decode cX7_put 0 = .ok (.aload_n 0, 1) := by decide +kernel
theorem dX7_put_1 : decode cX7_put 1 = .ok (.iconst 0, 1) := by decide +kernel
theorem dX7_put_2 : decode cX7_put 2 = .ok (.putfield 63, 3) := by decide +kernel
theorem dX7_put_5 : decode cX7_put 5 = .ok (.aload_n 0, 1) := by decide +kernel
theorem dX7_put_6 : decode cX7_put 6 = .ok (.iload_n 1, 1) := by decide +kernel
theorem dX7_put_7 : decode cX7_put 7 = .ok (.invokevirtual 67, 3) := by decide +kernel
theorem dX7_put_10 : decode cX7_put 10 = .ok (.astore 4, 2) := by decide +kernel
theorem dX7_put_12 : decode cX7_put 12 = .ok (.aload 4, 2) := by decide +kernel
theorem dX7_put_14 : decode cX7_put 14 = .ok (.ifnonnull 5, 3) := by decide +kernel
theorem dX7_put_17 : decode cX7_put 17 = .ok (.iconst (-1), 1) := by decide +kernel
theorem dX7_put_18 : decode cX7_put 18 = .ok (.ireturn, 1) := by decide +kernel
theorem dX7_put_19 : decode cX7_put 19 = .ok (.aload 4, 2) := by decide +kernel
theorem dX7_put_21 : decode cX7_put 21 = .ok (.invokevirtual 227, 3) := by decide +kernel
theorem dX7_put_24 : decode cX7_put 24 = .ok (.ifCond .eq 9, 3) := by decide +kernel
theorem dX7_put_27 : decode cX7_put 27 = .ok (.aload_n 0, 1) := by decide +kernel
theorem dX7_put_28 : decode cX7_put 28 = .ok (.iconst 1, 1) := by decide +kernel
theorem dX7_put_29 : decode cX7_put 29 = .ok (.invokevirtual 79, 3) := by decide +kernel
theorem dX7_put_32 : decode cX7_put 32 = .ok (.ireturn, 1) := by decide +kernel
theorem dX7_put_33 : decode cX7_put 33 = .ok (.aload 4, 2) := by decide +kernel
theorem dX7_put_35 : decode cX7_put 35 = .ok (.iload_n 2, 1) := by decide +kernel
theorem dX7_put_36 : decode cX7_put 36 = .ok (.invokevirtual 230, 3) := by decide +kernel
theorem dX7_put_39 : decode cX7_put 39 = .ok (.ifCond .ne 9, 3) := by decide +kernel
theorem dX7_put_42 : decode cX7_put 42 = .ok (.aload_n 0, 1) := by decide +kernel
theorem dX7_put_43 : decode cX7_put 43 = .ok (.iconst 3, 1) := by decide +kernel
theorem dX7_put_44 : decode cX7_put 44 = .ok (.invokevirtual 79, 3) := by decide +kernel
theorem dX7_put_47 : decode cX7_put 47 = .ok (.ireturn, 1) := by decide +kernel
theorem dX7_put_48 : decode cX7_put 48 = .ok (.aload 4, 2) := by decide +kernel
theorem dX7_put_50 : decode cX7_put 50 = .ok (.iload_n 2, 1) := by decide +kernel
theorem dX7_put_51 : decode cX7_put 51 = .ok (.iload_n 3, 1) := by decide +kernel
theorem dX7_put_52 : decode cX7_put 52 = .ok (.invokevirtual 231, 3) := by decide +kernel
theorem dX7_put_55 : decode cX7_put 55 = .ok (.iconst 1, 1) := by decide +kernel
theorem dX7_put_56 : decode cX7_put 56 = .ok (.ireturn, 1) := by decide +kernel
set_option maxRecDepth 20000 in
theorem ggX7_cell_X7_rowOf : GoodIn wsX7_cell wsX7_rowOf := goodIn_r _ [7, 8, 33, 34, 35, 36, 37, 38, 39, 40, 41, 42] (by decide +kernel) (by decide +kernel)
set_option maxRecDepth 20000 in
theorem gX7_cell_X7_rowOf : GoodIn wsX7_cell (wsV RX7 67 RX7 yX7_rowOf wsX7_rowOf) := goodIn_app (goodIn_of _ (by decide +kernel)) ggX7_cell_X7_rowOf
set_option maxRecDepth 20000 in
theorem ggX7_cell_X7_isLane : GoodIn wsX7_cell wsX7_isLane := goodIn_r _ [11] (by decide +kernel) (by decide +kernel)
set_option maxRecDepth 20000 in
theorem gX7_cell_X7_isLane : GoodIn wsX7_cell (va_wsS RX7 71 yX7_isLane wsX7_isLane) := goodIn_app (goodIn_of _ (by decide +kernel)) ggX7_cell_X7_isLane
set_option maxRecDepth 20000 in
theorem ggX7_cell_X3_faultAs : GoodIn wsX7_cell wsX3_faultAs := goodIn_r _ [16, 17, 18, 19, 20, 15, 21, 43, 44, 45] (by decide +kernel) (by decide +kernel)
set_option maxRecDepth 20000 in
theorem gX7_cell_X3_faultAs : GoodIn wsX7_cell (wsV RX7 75 RX3 yX3_faultAs wsX3_faultAs) := goodIn_app (goodIn_of _ (by decide +kernel)) ggX7_cell_X3_faultAs
set_option maxRecDepth 20000 in
theorem ggX7_cell_X3_has : GoodIn wsX7_cell wsX3_has := goodIn_r _ [25, 26, 43, 44, 45] (by decide +kernel) (by decide +kernel)
set_option maxRecDepth 20000 in
theorem gX7_cell_X3_has : GoodIn wsX7_cell (wsV RX7 230 RX3 yX3_has wsX3_has) := goodIn_app (goodIn_of _ (by decide +kernel)) ggX7_cell_X3_has
set_option maxRecDepth 20000 in
theorem ggX7_cell_X3_at : GoodIn wsX7_cell wsX3_at := goodIn_r _ [30, 31, 32, 23, 24, 15, 25, 26, 43, 44, 45] (by decide +kernel) (by decide +kernel)
set_option maxRecDepth 20000 in
theorem gX7_cell_X3_at : GoodIn wsX7_cell (wsV RX7 234 RX3 yX3_at wsX3_at) := goodIn_app (goodIn_of _ (by decide +kernel)) ggX7_cell_X3_at
theorem dX7_cell_0 : decode cX7_cell 0 = .ok (.aload_n 0, 1) := by decide +kernel
theorem dX7_cell_1 : decode cX7_cell 1 = .ok (.iconst 0, 1) := by decide +kernel
theorem dX7_cell_2 : decode cX7_cell 2 = .ok (.putfield 63, 3) := by decide +kernel
theorem dX7_cell_5 : decode cX7_cell 5 = .ok (.aload_n 0, 1) := by decide +kernel
theorem dX7_cell_6 : decode cX7_cell 6 = .ok (.iload_n 1, 1) := by decide +kernel
theorem dX7_cell_7 : decode cX7_cell 7 = .ok (.invokevirtual 67, 3) := by decide +kernel
theorem dX7_cell_10 : decode cX7_cell 10 = .ok (.astore 4, 2) := by decide +kernel
theorem dX7_cell_12 : decode cX7_cell 12 = .ok (.aload 4, 2) := by decide +kernel
theorem dX7_cell_14 : decode cX7_cell 14 = .ok (.ifnull 10, 3) := by decide +kernel
theorem dX7_cell_17 : decode cX7_cell 17 = .ok (.iload_n 3, 1) := by decide +kernel
theorem dX7_cell_18 : decode cX7_cell 18 = .ok (.invokestatic 71, 3) := by decide +kernel
theorem dX7_cell_21 : decode cX7_cell 21 = .ok (.ifCond .ne 7, 3) := by decide +kernel
theorem dX7_cell_24 : decode cX7_cell 24 = .ok (.ldc2_w 152, 3) := by decide +kernel
theorem dX7_cell_27 : decode cX7_cell 27 = .ok (.lreturn, 1) := by decide +kernel
theorem dX7_cell_28 : decode cX7_cell 28 = .ok (.aload 4, 2) := by decide +kernel
theorem dX7_cell_30 : decode cX7_cell 30 = .ok (.iload_n 3, 1) := by decide +kernel
theorem dX7_cell_31 : decode cX7_cell 31 = .ok (.invokevirtual 75, 3) := by decide +kernel
theorem dX7_cell_34 : decode cX7_cell 34 = .ok (.istore 5, 2) := by decide +kernel
theorem dX7_cell_36 : decode cX7_cell 36 = .ok (.iload 5, 2) := by decide +kernel
theorem dX7_cell_38 : decode cX7_cell 38 = .ok (.ifCond .ne 15, 3) := by decide +kernel
theorem dX7_cell_41 : decode cX7_cell 41 = .ok (.aload 4, 2) := by decide +kernel
theorem dX7_cell_43 : decode cX7_cell 43 = .ok (.iload_n 2, 1) := by decide +kernel
theorem dX7_cell_44 : decode cX7_cell 44 = .ok (.invokevirtual 230, 3) := by decide +kernel
theorem dX7_cell_47 : decode cX7_cell 47 = .ok (.ifCond .ne 6, 3) := by decide +kernel
theorem dX7_cell_50 : decode cX7_cell 50 = .ok (.iconst 3, 1) := by decide +kernel
theorem dX7_cell_51 : decode cX7_cell 51 = .ok (.istore 5, 2) := by decide +kernel
theorem dX7_cell_53 : decode cX7_cell 53 = .ok (.iload 5, 2) := by decide +kernel
theorem dX7_cell_55 : decode cX7_cell 55 = .ok (.ifCond .eq 13, 3) := by decide +kernel
theorem dX7_cell_58 : decode cX7_cell 58 = .ok (.aload_n 0, 1) := by decide +kernel
theorem dX7_cell_59 : decode cX7_cell 59 = .ok (.iload 5, 2) := by decide +kernel
theorem dX7_cell_61 : decode cX7_cell 61 = .ok (.putfield 63, 3) := by decide +kernel
theorem dX7_cell_64 : decode cX7_cell 64 = .ok (.ldc2_w 152, 3) := by decide +kernel
theorem dX7_cell_67 : decode cX7_cell 67 = .ok (.lreturn, 1) := by decide +kernel
theorem dX7_cell_68 : decode cX7_cell 68 = .ok (.aload 4, 2) := by decide +kernel
theorem dX7_cell_70 : decode cX7_cell 70 = .ok (.iload_n 2, 1) := by decide +kernel
theorem dX7_cell_71 : decode cX7_cell 71 = .ok (.invokevirtual 234, 3) := by decide +kernel
theorem dX7_cell_74 : decode cX7_cell 74 = .ok (.i2l, 1) := by decide +kernel
theorem dX7_cell_75 : decode cX7_cell 75 = .ok (.lreturn, 1) := by decide +kernel
set_option maxRecDepth 20000 in
theorem ggX7_copy_X7_rowOf : GoodIn wsX7_copy wsX7_rowOf := goodIn_r _ [10, 11, 27, 28, 29, 30, 31, 32, 33, 34, 35, 36] (by decide +kernel) (by decide +kernel)
set_option maxRecDepth 20000 in
theorem gX7_copy_X7_rowOf : GoodIn wsX7_copy (wsV RX7 67 RX7 yX7_rowOf wsX7_rowOf) := goodIn_app (goodIn_of _ (by decide +kernel)) ggX7_copy_X7_rowOf
set_option maxRecDepth 20000 in
theorem ggX7_copy_X3_isNothing : GoodIn wsX7_copy wsX3_isNothing := goodIn_r _ [16, 17, 37, 38, 39] (by decide +kernel) (by decide +kernel)
set_option maxRecDepth 20000 in
theorem gX7_copy_X3_isNothing : GoodIn wsX7_copy (wsV RX7 227 RX3 yX3_isNothing wsX3_isNothing) := goodIn_app (goodIn_of _ (by decide +kernel)) ggX7_copy_X3_isNothing
set_option maxRecDepth 20000 in
theorem ggX7_copy_X7_failed : GoodIn wsX7_copy wsX7_failed := goodIn_r _ [21, 1, 27, 28, 29, 30, 31, 32, 33, 34, 35, 36] (by decide +kernel) (by decide +kernel)
set_option maxRecDepth 20000 in
theorem gX7_copy_X7_failed : GoodIn wsX7_copy (wsV RX7 79 RX7 yX7_failed wsX7_failed) := goodIn_app (goodIn_of _ (by decide +kernel)) ggX7_copy_X7_failed
set_option maxRecDepth 20000 in
theorem ggX7_copy_X3_hasStretch : GoodIn wsX7_copy wsX3_hasStretch := goodIn_r _ [25, 26, 37, 38, 39] (by decide +kernel) (by decide +kernel)
set_option maxRecDepth 20000 in
theorem gX7_copy_X3_hasStretch : GoodIn wsX7_copy (wsV RX7 82 RX3 yX3_hasStretch wsX3_hasStretch) := goodIn_app (goodIn_of _ (by decide +kernel)) ggX7_copy_X3_hasStretch
theorem dX7_copy_0 : decode cX7_copy 0 = .ok (.aload_n 0, 1) := by decide +kernel
theorem dX7_copy_1 : decode cX7_copy 1 = .ok (.iconst 0, 1) := by decide +kernel
theorem dX7_copy_2 : decode cX7_copy 2 = .ok (.putfield 63, 3) := by decide +kernel
theorem dX7_copy_5 : decode cX7_copy 5 = .ok (.aload_n 0, 1) := by decide +kernel
theorem dX7_copy_6 : decode cX7_copy 6 = .ok (.iload_n 1, 1) := by decide +kernel
theorem dX7_copy_7 : decode cX7_copy 7 = .ok (.invokevirtual 67, 3) := by decide +kernel
theorem dX7_copy_10 : decode cX7_copy 10 = .ok (.astore 6, 2) := by decide +kernel
theorem dX7_copy_12 : decode cX7_copy 12 = .ok (.aload_n 0, 1) := by decide +kernel
theorem dX7_copy_13 : decode cX7_copy 13 = .ok (.iload_n 3, 1) := by decide +kernel
theorem dX7_copy_14 : decode cX7_copy 14 = .ok (.invokevirtual 67, 3) := by decide +kernel
theorem dX7_copy_17 : decode cX7_copy 17 = .ok (.astore 7, 2) := by decide +kernel
theorem dX7_copy_19 : decode cX7_copy 19 = .ok (.aload 6, 2) := by decide +kernel
theorem dX7_copy_21 : decode cX7_copy 21 = .ok (.ifnull 8, 3) := by decide +kernel
theorem dX7_copy_24 : decode cX7_copy 24 = .ok (.aload 7, 2) := by decide +kernel
theorem dX7_copy_26 : decode cX7_copy 26 = .ok (.ifnonnull 5, 3) := by decide +kernel
theorem dX7_copy_29 : decode cX7_copy 29 = .ok (.iconst (-1), 1) := by decide +kernel
theorem dX7_copy_30 : decode cX7_copy 30 = .ok (.ireturn, 1) := by decide +kernel
theorem dX7_copy_31 : decode cX7_copy 31 = .ok (.aload 6, 2) := by decide +kernel
theorem dX7_copy_33 : decode cX7_copy 33 = .ok (.invokevirtual 227, 3) := by decide +kernel
theorem dX7_copy_36 : decode cX7_copy 36 = .ok (.ifCond .ne 11, 3) := by decide +kernel
theorem dX7_copy_39 : decode cX7_copy 39 = .ok (.aload 7, 2) := by decide +kernel
theorem dX7_copy_41 : decode cX7_copy 41 = .ok (.invokevirtual 227, 3) := by decide +kernel
theorem dX7_copy_44 : decode cX7_copy 44 = .ok (.ifCond .eq 9, 3) := by decide +kernel
theorem dX7_copy_47 : decode cX7_copy 47 = .ok (.aload_n 0, 1) := by decide +kernel
theorem dX7_copy_48 : decode cX7_copy 48 = .ok (.iconst 1, 1) := by decide +kernel
theorem dX7_copy_49 : decode cX7_copy 49 = .ok (.invokevirtual 79, 3) := by decide +kernel
theorem dX7_copy_52 : decode cX7_copy 52 = .ok (.ireturn, 1) := by decide +kernel
theorem dX7_copy_53 : decode cX7_copy 53 = .ok (.aload 6, 2) := by decide +kernel
theorem dX7_copy_55 : decode cX7_copy 55 = .ok (.getfield 237, 3) := by decide +kernel
theorem dX7_copy_58 : decode cX7_copy 58 = .ok (.aload 7, 2) := by decide +kernel
theorem dX7_copy_60 : decode cX7_copy 60 = .ok (.getfield 237, 3) := by decide +kernel
theorem dX7_copy_63 : decode cX7_copy 63 = .ok (.if_icmp .eq 9, 3) := by decide +kernel
theorem dX7_copy_66 : decode cX7_copy 66 = .ok (.aload_n 0, 1) := by decide +kernel
theorem dX7_copy_67 : decode cX7_copy 67 = .ok (.iconst 2, 1) := by decide +kernel
theorem dX7_copy_68 : decode cX7_copy 68 = .ok (.invokevirtual 79, 3) := by decide +kernel
theorem dX7_copy_71 : decode cX7_copy 71 = .ok (.ireturn, 1) := by decide +kernel
theorem dX7_copy_72 : decode cX7_copy 72 = .ok (.aload 6, 2) := by decide +kernel
theorem dX7_copy_74 : decode cX7_copy 74 = .ok (.iload_n 2, 1) := by decide +kernel
theorem dX7_copy_75 : decode cX7_copy 75 = .ok (.iload 5, 2) := by decide +kernel
theorem dX7_copy_77 : decode cX7_copy 77 = .ok (.invokevirtual 82, 3) := by decide +kernel
theorem dX7_copy_80 : decode cX7_copy 80 = .ok (.ifCond .eq 15, 3) := by decide +kernel
theorem dX7_copy_83 : decode cX7_copy 83 = .ok (.aload 7, 2) := by decide +kernel
theorem dX7_copy_85 : decode cX7_copy 85 = .ok (.iload 4, 2) := by decide +kernel
theorem dX7_copy_87 : decode cX7_copy 87 = .ok (.iload 5, 2) := by decide +kernel
theorem dX7_copy_89 : decode cX7_copy 89 = .ok (.invokevirtual 82, 3) := by decide +kernel
theorem dX7_copy_92 : decode cX7_copy 92 = .ok (.ifCond .ne 9, 3) := by decide +kernel
theorem dX7_copy_95 : decode cX7_copy 95 = .ok (.aload_n 0, 1) := by decide +kernel
theorem dX7_copy_96 : decode cX7_copy 96 = .ok (.iconst 3, 1) := by decide +kernel
theorem dX7_copy_97 : decode cX7_copy 97 = .ok (.invokevirtual 79, 3) := by decide +kernel
theorem dX7_copy_100 : decode cX7_copy 100 = .ok (.ireturn, 1) := by decide +kernel
theorem dX7_copy_101 : decode cX7_copy 101 = .ok (.aload 6, 2) := by decide +kernel
theorem dX7_copy_103 : decode cX7_copy 103 = .ok (.getfield 240, 3) := by decide +kernel
theorem dX7_copy_106 : decode cX7_copy 106 = .ok (.iload_n 2, 1) := by decide +kernel
theorem dX7_copy_107 : decode cX7_copy 107 = .ok (.aload 7, 2) := by decide +kernel
theorem dX7_copy_109 : decode cX7_copy 109 = .ok (.getfield 240, 3) := by decide +kernel
theorem dX7_copy_112 : decode cX7_copy 112 = .ok (.iload 4, 2) := by decide +kernel
theorem dX7_copy_114 : decode cX7_copy 114 = .ok (.iload 5, 2) := by decide +kernel
theorem dX7_copy_116 : decode cX7_copy 116 = .ok (.invokestatic 244, 3) := by decide +kernel
theorem dX7_copy_119 : decode cX7_copy 119 = .ok (.iload 5, 2) := by decide +kernel
theorem dX7_copy_121 : decode cX7_copy 121 = .ok (.ireturn, 1) := by decide +kernel
set_option maxRecDepth 20000 in
theorem ggX7_tell_X2_has : GoodIn wsX7_tell wsX2_has := goodIn_r _ [6, 7, 47, 48, 49, 50, 51, 52] (by decide +kernel) (by decide +kernel)
set_option maxRecDepth 20000 in
theorem gX7_tell_X2_has : GoodIn wsX7_tell (wsV RX7 96 RX2 yX2_has wsX2_has) := goodIn_app (goodIn_of _ (by decide +kernel)) ggX7_tell_X2_has
set_option maxRecDepth 20000 in
theorem ggX7_tell_X2_kindOf : GoodIn wsX7_tell wsX2_kindOf := goodIn_r _ [11, 12, 13, 3, 4, 5, 6, 7, 47, 48, 49, 50, 51, 52] (by decide +kernel) (by decide +kernel)
set_option maxRecDepth 20000 in
theorem gX7_tell_X2_kindOf : GoodIn wsX7_tell (wsV RX7 99 RX2 yX2_kindOf wsX2_kindOf) := goodIn_app (goodIn_of _ (by decide +kernel)) ggX7_tell_X2_kindOf
set_option maxRecDepth 20000 in
theorem ggX7_tell_X7_clayTelling : GoodIn wsX7_tell wsX7_clayTelling := goodIn_r _ [18, 19, 20, 21, 17, 22, 23, 24, 25, 26, 27, 28, 29, 30, 31, 1, 32, 33, 34, 5, 35, 36, 13, 3, 4, 6, 7, 37, 38, 39, 40, 41, 42, 43, 44, 45, 46, 47, 48, 49, 50, 51, 52] (by decide +kernel) (by decide +kernel)
set_option maxRecDepth 20000 in
theorem gX7_tell_X7_clayTelling : GoodIn wsX7_tell (wsV RX7 250 RX7 yX7_clayTelling wsX7_clayTelling) := goodIn_app (goodIn_of _ (by decide +kernel)) ggX7_tell_X7_clayTelling
set_option maxRecDepth 20000 in
theorem ggX7_tell_X7_muddyTelling : GoodIn wsX7_tell wsX7_muddyTelling := goodIn_r _ [27, 19, 20, 21, 17, 22, 23, 28, 29, 30, 31, 1, 32, 33, 34, 5, 35, 36, 13, 3, 4, 6, 7, 37, 38, 39, 40, 41, 42, 43, 44, 45, 46, 47, 48, 49, 50, 51, 52] (by decide +kernel) (by decide +kernel)
set_option maxRecDepth 20000 in
theorem gX7_tell_X7_muddyTelling : GoodIn wsX7_tell (wsV RX7 253 RX7 yX7_muddyTelling wsX7_muddyTelling) := goodIn_app (goodIn_of _ (by decide +kernel)) ggX7_tell_X7_muddyTelling
set_option maxRecDepth 20000 in
theorem ggX7_tell_X7_gravelTelling : GoodIn wsX7_tell wsX7_gravelTelling := goodIn_r _ [31, 1, 19, 20, 21, 17, 22, 23, 32, 33, 34, 5, 35, 36, 13, 3, 4, 6, 7, 37, 38, 39, 40, 41, 42, 43, 44, 45, 46, 47, 48, 49, 50, 51, 52] (by decide +kernel) (by decide +kernel)
set_option maxRecDepth 20000 in
theorem gX7_tell_X7_gravelTelling : GoodIn wsX7_tell (wsV RX7 256 RX7 yX7_gravelTelling wsX7_gravelTelling) := goodIn_app (goodIn_of _ (by decide +kernel)) ggX7_tell_X7_gravelTelling
theorem dX7_tell_0 : decode cX7_tell 0 = .ok (.aload_n 0, 1) := by decide +kernel
theorem dX7_tell_1 : decode cX7_tell 1 = .ok (.getfield 20, 3) := by decide +kernel
theorem dX7_tell_4 : decode cX7_tell 4 = .ok (.iload_n 1, 1) := by decide +kernel
theorem dX7_tell_5 : decode cX7_tell 5 = .ok (.invokevirtual 96, 3) := by decide +kernel
theorem dX7_tell_8 : decode cX7_tell 8 = .ok (.ifCond .ne 5, 3) := by decide +kernel
theorem dX7_tell_11 : decode cX7_tell 11 = .ok (.iconst (-1), 1) := by decide +kernel
theorem dX7_tell_12 : decode cX7_tell 12 = .ok (.ireturn, 1) := by decide +kernel
theorem dX7_tell_13 : decode cX7_tell 13 = .ok (.aload_n 0, 1) := by decide +kernel
theorem dX7_tell_14 : decode cX7_tell 14 = .ok (.getfield 20, 3) := by decide +kernel
theorem dX7_tell_17 : decode cX7_tell 17 = .ok (.iload_n 1, 1) := by decide +kernel
theorem dX7_tell_18 : decode cX7_tell 18 = .ok (.invokevirtual 99, 3) := by decide +kernel
theorem dX7_tell_21 : decode cX7_tell 21 = .ok (.lookupswitch 39 #[(1, 33), (2, 27)], 27) := by decide +kernel
theorem dX7_tell_48 : decode cX7_tell 48 = .ok (.aload_n 0, 1) := by decide +kernel
theorem dX7_tell_49 : decode cX7_tell 49 = .ok (.iload_n 1, 1) := by decide +kernel
theorem dX7_tell_50 : decode cX7_tell 50 = .ok (.invokevirtual 250, 3) := by decide +kernel
theorem dX7_tell_53 : decode cX7_tell 53 = .ok (.ireturn, 1) := by decide +kernel
theorem dX7_tell_54 : decode cX7_tell 54 = .ok (.aload_n 0, 1) := by decide +kernel
theorem dX7_tell_55 : decode cX7_tell 55 = .ok (.iload_n 1, 1) := by decide +kernel
theorem dX7_tell_56 : decode cX7_tell 56 = .ok (.invokevirtual 253, 3) := by decide +kernel
theorem dX7_tell_59 : decode cX7_tell 59 = .ok (.ireturn, 1) := by decide +kernel
theorem dX7_tell_60 : decode cX7_tell 60 = .ok (.aload_n 0, 1) := by decide +kernel
theorem dX7_tell_61 : decode cX7_tell 61 = .ok (.iload_n 1, 1) := by decide +kernel
theorem dX7_tell_62 : decode cX7_tell 62 = .ok (.invokevirtual 256, 3) := by decide +kernel
theorem dX7_tell_65 : decode cX7_tell 65 = .ok (.ireturn, 1) := by decide +kernel
set_option maxRecDepth 20000 in
theorem ggX7_sound_X2_has : GoodIn wsX7_sound wsX2_has := goodIn_r _ [6, 7, 30, 31, 32, 33, 34, 35] (by decide +kernel) (by decide +kernel)
set_option maxRecDepth 20000 in
theorem gX7_sound_X2_has : GoodIn wsX7_sound (wsV RX7 96 RX2 yX2_has wsX2_has) := goodIn_app (goodIn_of _ (by decide +kernel)) ggX7_sound_X2_has
set_option maxRecDepth 20000 in
theorem ggX7_sound_X2_kindOf : GoodIn wsX7_sound wsX2_kindOf := goodIn_r _ [11, 12, 13, 3, 4, 5, 6, 7, 30, 31, 32, 33, 34, 35] (by decide +kernel) (by decide +kernel)
set_option maxRecDepth 20000 in
theorem gX7_sound_X2_kindOf : GoodIn wsX7_sound (wsV RX7 99 RX2 yX2_kindOf wsX2_kindOf) := goodIn_app (goodIn_of _ (by decide +kernel)) ggX7_sound_X2_kindOf
set_option maxRecDepth 20000 in
theorem ggX7_sound_X7_leaveTrace : GoodIn wsX7_sound wsX7_leaveTrace := goodIn_r _ [18, 19, 20, 21, 22, 23, 24, 25, 26, 27, 28, 29] (by decide +kernel) (by decide +kernel)
set_option maxRecDepth 20000 in
theorem gX7_sound_X7_leaveTrace : GoodIn wsX7_sound (wsV RX7 259 RX7 yX7_leaveTrace wsX7_leaveTrace) := goodIn_app (goodIn_of _ (by decide +kernel)) ggX7_sound_X7_leaveTrace
theorem dX7_sound_0 : decode cX7_sound 0 = .ok (.aload_n 0, 1) := by decide +kernel
theorem dX7_sound_1 : decode cX7_sound 1 = .ok (.getfield 20, 3) := by decide +kernel
theorem dX7_sound_4 : decode cX7_sound 4 = .ok (.iload_n 1, 1) := by decide +kernel
theorem dX7_sound_5 : decode cX7_sound 5 = .ok (.invokevirtual 96, 3) := by decide +kernel
theorem dX7_sound_8 : decode cX7_sound 8 = .ok (.ifCond .ne 5, 3) := by decide +kernel
theorem dX7_sound_11 : decode cX7_sound 11 = .ok (.iconst (-1), 1) := by decide +kernel
theorem dX7_sound_12 : decode cX7_sound 12 = .ok (.ireturn, 1) := by decide +kernel
theorem dX7_sound_13 : decode cX7_sound 13 = .ok (.aload_n 0, 1) := by decide +kernel
theorem dX7_sound_14 : decode cX7_sound 14 = .ok (.getfield 20, 3) := by decide +kernel
theorem dX7_sound_17 : decode cX7_sound 17 = .ok (.iload_n 1, 1) := by decide +kernel
theorem dX7_sound_18 : decode cX7_sound 18 = .ok (.invokevirtual 99, 3) := by decide +kernel
theorem dX7_sound_21 : decode cX7_sound 21 = .ok (.iconst 2, 1) := by decide +kernel
theorem dX7_sound_22 : decode cX7_sound 22 = .ok (.if_icmp .ne 11, 3) := by decide +kernel
theorem dX7_sound_25 : decode cX7_sound 25 = .ok (.aload_n 0, 1) := by decide +kernel
theorem dX7_sound_26 : decode cX7_sound 26 = .ok (.iconst 5, 1) := by decide +kernel
theorem dX7_sound_27 : decode cX7_sound 27 = .ok (.invokevirtual 259, 3) := by decide +kernel
theorem dX7_sound_30 : decode cX7_sound 30 = .ok (.bipush 50, 2) := by decide +kernel
theorem dX7_sound_32 : decode cX7_sound 32 = .ok (.ireturn, 1) := by decide +kernel
theorem dX7_sound_33 : decode cX7_sound 33 = .ok (.aload_n 0, 1) := by decide +kernel
theorem dX7_sound_34 : decode cX7_sound 34 = .ok (.iconst 4, 1) := by decide +kernel
theorem dX7_sound_35 : decode cX7_sound 35 = .ok (.invokevirtual 259, 3) := by decide +kernel
theorem dX7_sound_38 : decode cX7_sound 38 = .ok (.iload_n 1, 1) := by decide +kernel
theorem dX7_sound_39 : decode cX7_sound 39 = .ok (.ireturn, 1) := by decide +kernel
set_option maxRecDepth 20000 in
theorem ggX7_as_X2_has : GoodIn wsX7_as wsX2_has := goodIn_r _ [7, 8, 30, 31, 32, 33, 34, 35] (by decide +kernel) (by decide +kernel)
set_option maxRecDepth 20000 in
theorem gX7_as_X2_has : GoodIn wsX7_as (wsV RX7 96 RX2 yX2_has wsX2_has) := goodIn_app (goodIn_of _ (by decide +kernel)) ggX7_as_X2_has
set_option maxRecDepth 20000 in
theorem ggX7_as_X2_kindOf : GoodIn wsX7_as wsX2_kindOf := goodIn_r _ [12, 13, 14, 4, 5, 6, 7, 8, 30, 31, 32, 33, 34, 35] (by decide +kernel) (by decide +kernel)
set_option maxRecDepth 20000 in
theorem gX7_as_X2_kindOf : GoodIn wsX7_as (wsV RX7 99 RX2 yX2_kindOf wsX2_kindOf) := goodIn_app (goodIn_of _ (by decide +kernel)) ggX7_as_X2_kindOf
set_option maxRecDepth 20000 in
theorem ggX7_as_X7_failed : GoodIn wsX7_as wsX7_failed := goodIn_r _ [19, 1, 20, 21, 22, 23, 24, 25, 26, 27, 28, 29] (by decide +kernel) (by decide +kernel)
set_option maxRecDepth 20000 in
theorem gX7_as_X7_failed : GoodIn wsX7_as (wsV RX7 79 RX7 yX7_failed wsX7_failed) := goodIn_app (goodIn_of _ (by decide +kernel)) ggX7_as_X7_failed
theorem dX7_as_0 : decode cX7_as 0 = .ok (.aload_n 0, 1) := by decide +kernel
theorem dX7_as_1 : decode cX7_as 1 = .ok (.iconst 0, 1) := by decide +kernel
theorem dX7_as_2 : decode cX7_as 2 = .ok (.putfield 63, 3) := by decide +kernel
theorem dX7_as_5 : decode cX7_as 5 = .ok (.aload_n 0, 1) := by decide +kernel
theorem dX7_as_6 : decode cX7_as 6 = .ok (.getfield 20, 3) := by decide +kernel
theorem dX7_as_9 : decode cX7_as 9 = .ok (.iload_n 1, 1) := by decide +kernel
theorem dX7_as_10 : decode cX7_as 10 = .ok (.invokevirtual 96, 3) := by decide +kernel
theorem dX7_as_13 : decode cX7_as 13 = .ok (.ifCond .ne 5, 3) := by decide +kernel
theorem dX7_as_16 : decode cX7_as 16 = .ok (.iconst (-1), 1) := by decide +kernel
theorem dX7_as_17 : decode cX7_as 17 = .ok (.ireturn, 1) := by decide +kernel
theorem dX7_as_18 : decode cX7_as 18 = .ok (.iload_n 2, 1) := by decide +kernel
theorem dX7_as_19 : decode cX7_as 19 = .ok (.ifCond .lt 8, 3) := by decide +kernel
theorem dX7_as_22 : decode cX7_as 22 = .ok (.iload_n 2, 1) := by decide +kernel
theorem dX7_as_23 : decode cX7_as 23 = .ok (.iconst 2, 1) := by decide +kernel
theorem dX7_as_24 : decode cX7_as 24 = .ok (.if_icmp .le 6, 3) := by decide +kernel
theorem dX7_as_27 : decode cX7_as 27 = .ok (.bipush (-2), 2) := by decide +kernel
theorem dX7_as_29 : decode cX7_as 29 = .ok (.ireturn, 1) := by decide +kernel
theorem dX7_as_30 : decode cX7_as 30 = .ok (.aload_n 0, 1) := by decide +kernel
theorem dX7_as_31 : decode cX7_as 31 = .ok (.getfield 20, 3) := by decide +kernel
theorem dX7_as_34 : decode cX7_as 34 = .ok (.iload_n 1, 1) := by decide +kernel
theorem dX7_as_35 : decode cX7_as 35 = .ok (.invokevirtual 99, 3) := by decide +kernel
theorem dX7_as_38 : decode cX7_as 38 = .ok (.iload_n 2, 1) := by decide +kernel
theorem dX7_as_39 : decode cX7_as 39 = .ok (.if_icmp .lt 7, 3) := by decide +kernel
theorem dX7_as_42 : decode cX7_as 42 = .ok (.iconst 1, 1) := by decide +kernel
theorem dX7_as_43 : decode cX7_as 43 = .ok (.goto 8, 3) := by decide +kernel
theorem dX7_as_46 : decode cX7_as 46 = .ok (.aload_n 0, 1) := by decide +kernel
theorem dX7_as_47 : decode cX7_as 47 = .ok (.iconst 2, 1) := by decide +kernel
theorem dX7_as_48 : decode cX7_as 48 = .ok (.invokevirtual 79, 3) := by decide +kernel
theorem dX7_as_51 : decode cX7_as 51 = .ok (.ireturn, 1) := by decide +kernel
theorem dX7_trace_0 : decode cX7_trace 0 = .ok (.aload_n 0, 1) := by decide +kernel
theorem dX7_trace_1 : decode cX7_trace 1 = .ok (.getfield 263, 3) := by decide +kernel
theorem dX7_trace_4 : decode cX7_trace 4 = .ok (.ireturn, 1) := by decide +kernel
theorem dX7_fault_0 : decode cX7_fault 0 = .ok (.aload_n 0, 1) := by decide +kernel
theorem dX7_fault_1 : decode cX7_fault 1 = .ok (.getfield 63, 3) := by decide +kernel
theorem dX7_fault_4 : decode cX7_fault 4 = .ok (.ireturn, 1) := by decide +kernel
set_option maxRecDepth 20000 in
theorem ggX7_many_X2_bridgeCount : GoodIn wsX7_many wsX2_bridgeCount := goodIn_r _ [7, 8, 9, 10, 11, 6, 12, 13, 14, 15, 16, 17, 18, 19, 20, 31, 32, 33, 34, 35, 36] (by decide +kernel) (by decide +kernel)
set_option maxRecDepth 20000 in
theorem gX7_many_X2_bridgeCount : GoodIn wsX7_many (wsV RX7 266 RX2 yX2_bridgeCount wsX2_bridgeCount) := goodIn_app (goodIn_of _ (by decide +kernel)) ggX7_many_X2_bridgeCount
theorem dX7_many_0 : decode cX7_many 0 = .ok (.iload_n 1, 1) := by decide +kernel
theorem dX7_many_1 : decode cX7_many 1 = .ok (.tableswitch 63 0 3 #[31, 39, 47, 55], 31) := by decide +kernel
theorem dX7_many_32 : decode cX7_many 32 = .ok (.aload_n 0, 1) := by decide +kernel
theorem dX7_many_33 : decode cX7_many 33 = .ok (.getfield 20, 3) := by decide +kernel
theorem dX7_many_36 : decode cX7_many 36 = .ok (.getfield 93, 3) := by decide +kernel
theorem dX7_many_39 : decode cX7_many 39 = .ok (.ireturn, 1) := by decide +kernel
theorem dX7_many_40 : decode cX7_many 40 = .ok (.aload_n 0, 1) := by decide +kernel
theorem dX7_many_41 : decode cX7_many 41 = .ok (.getfield 20, 3) := by decide +kernel
theorem dX7_many_44 : decode cX7_many 44 = .ok (.getfield 122, 3) := by decide +kernel
theorem dX7_many_47 : decode cX7_many 47 = .ok (.ireturn, 1) := by decide +kernel
theorem dX7_many_48 : decode cX7_many 48 = .ok (.aload_n 0, 1) := by decide +kernel
theorem dX7_many_49 : decode cX7_many 49 = .ok (.getfield 20, 3) := by decide +kernel
theorem dX7_many_52 : decode cX7_many 52 = .ok (.invokevirtual 266, 3) := by decide +kernel
theorem dX7_many_55 : decode cX7_many 55 = .ok (.ireturn, 1) := by decide +kernel
theorem dX7_many_56 : decode cX7_many 56 = .ok (.aload_n 0, 1) := by decide +kernel
theorem dX7_many_57 : decode cX7_many 57 = .ok (.getfield 44, 3) := by decide +kernel
theorem dX7_many_60 : decode cX7_many 60 = .ok (.getfield 132, 3) := by decide +kernel
theorem dX7_many_63 : decode cX7_many 63 = .ok (.ireturn, 1) := by decide +kernel
theorem dX7_many_64 : decode cX7_many 64 = .ok (.bipush (-2), 2) := by decide +kernel
theorem dX7_many_66 : decode cX7_many 66 = .ok (.ireturn, 1) := by decide +kernel
set_option maxRecDepth 20000 in
theorem ggX7_gravelTelling_X7_leaveTrace : GoodIn wsX7_gravelTelling wsX7_leaveTrace := goodIn_r _ [6, 7, 19, 20, 21, 22, 23, 24, 25, 26, 27, 28] (by decide +kernel) (by decide +kernel)
set_option maxRecDepth 20000 in
theorem gX7_gravelTelling_X7_leaveTrace : GoodIn wsX7_gravelTelling (wsV RX7 259 RX7 yX7_leaveTrace wsX7_leaveTrace) := goodIn_app (goodIn_of _ (by decide +kernel)) ggX7_gravelTelling_X7_leaveTrace
set_option maxRecDepth 20000 in
theorem ggX7_gravelTelling_X2_mudOf : GoodIn wsX7_gravelTelling wsX2_mudOf := goodIn_r _ [12, 13, 14, 15, 16, 11, 17, 18, 29, 30, 31, 32, 33, 34] (by decide +kernel) (by decide +kernel)
set_option maxRecDepth 20000 in
theorem gX7_gravelTelling_X2_mudOf : GoodIn wsX7_gravelTelling (wsV RX7 102 RX2 yX2_mudOf wsX2_mudOf) := goodIn_app (goodIn_of _ (by decide +kernel)) ggX7_gravelTelling_X2_mudOf
theorem dX7_gravelTelling_0 : decode cX7_gravelTelling 0 = .ok (.aload_n 0, 1) := by decide +kernel
theorem dX7_gravelTelling_1 : decode cX7_gravelTelling 1 = .ok (.iconst 1, 1) := by decide +kernel
theorem dX7_gravelTelling_2 : decode cX7_gravelTelling 2 = .ok (.invokevirtual 259, 3) := by decide +kernel
theorem dX7_gravelTelling_5 : decode cX7_gravelTelling 5 = .ok (.aload_n 0, 1) := by decide +kernel
theorem dX7_gravelTelling_6 : decode cX7_gravelTelling 6 = .ok (.getfield 20, 3) := by decide +kernel
theorem dX7_gravelTelling_9 : decode cX7_gravelTelling 9 = .ok (.iload_n 1, 1) := by decide +kernel
theorem dX7_gravelTelling_10 : decode cX7_gravelTelling 10 = .ok (.invokevirtual 102, 3) := by decide +kernel
theorem dX7_gravelTelling_13 : decode cX7_gravelTelling 13 = .ok (.ireturn, 1) := by decide +kernel
set_option maxRecDepth 20000 in
theorem ggX7_muddyTelling_X7_leaveTrace : GoodIn wsX7_muddyTelling wsX7_leaveTrace := goodIn_r _ [5, 6, 23, 24, 25, 26, 27, 28, 29, 30, 31, 32] (by decide +kernel) (by decide +kernel)
set_option maxRecDepth 20000 in
theorem gX7_muddyTelling_X7_leaveTrace : GoodIn wsX7_muddyTelling (wsV RX7 259 RX7 yX7_leaveTrace wsX7_leaveTrace) := goodIn_app (goodIn_of _ (by decide +kernel)) ggX7_muddyTelling_X7_leaveTrace
set_option maxRecDepth 20000 in
theorem ggX7_muddyTelling_X7_gravelTelling : GoodIn wsX7_muddyTelling wsX7_gravelTelling := goodIn_r _ [10, 11, 1, 2, 3, 4, 5, 6, 12, 13, 14, 15, 16, 17, 18, 19, 20, 21, 22, 23, 24, 25, 26, 27, 28, 29, 30, 31, 32, 33, 34, 35, 36, 37, 38] (by decide +kernel) (by decide +kernel)
set_option maxRecDepth 20000 in
theorem gX7_muddyTelling_X7_gravelTelling : GoodIn wsX7_muddyTelling (wsV RX7 256 RX7 yX7_gravelTelling wsX7_gravelTelling) := goodIn_app (goodIn_of _ (by decide +kernel)) ggX7_muddyTelling_X7_gravelTelling
theorem dX7_muddyTelling_0 : decode cX7_muddyTelling 0 = .ok (.aload_n 0, 1) := by decide +kernel
theorem dX7_muddyTelling_1 : decode cX7_muddyTelling 1 = .ok (.iconst 2, 1) := by decide +kernel
theorem dX7_muddyTelling_2 : decode cX7_muddyTelling 2 = .ok (.invokevirtual 259, 3) := by decide +kernel
theorem dX7_muddyTelling_5 : decode cX7_muddyTelling 5 = .ok (.aload_n 0, 1) := by decide +kernel
theorem dX7_muddyTelling_6 : decode cX7_muddyTelling 6 = .ok (.iload_n 1, 1) := by decide +kernel
theorem dX7_muddyTelling_7 : decode cX7_muddyTelling 7 = .ok (.invokevirtual 256, 3) := by decide +kernel
theorem dX7_muddyTelling_10 : decode cX7_muddyTelling 10 = .ok (.bipush 100, 2) := by decide +kernel
theorem dX7_muddyTelling_12 : decode cX7_muddyTelling 12 = .ok (.iadd, 1) := by decide +kernel
theorem dX7_muddyTelling_13 : decode cX7_muddyTelling 13 = .ok (.ireturn, 1) := by decide +kernel
set_option maxRecDepth 20000 in
theorem ggX7_clayTelling_X7_leaveTrace : GoodIn wsX7_clayTelling wsX7_leaveTrace := goodIn_r _ [5, 6, 27, 28, 29, 30, 31, 32, 33, 34, 35, 36] (by decide +kernel) (by decide +kernel)
set_option maxRecDepth 20000 in
theorem gX7_clayTelling_X7_leaveTrace : GoodIn wsX7_clayTelling (wsV RX7 259 RX7 yX7_leaveTrace wsX7_leaveTrace) := goodIn_app (goodIn_of _ (by decide +kernel)) ggX7_clayTelling_X7_leaveTrace
set_option maxRecDepth 20000 in
theorem ggX7_clayTelling_X7_muddyTelling : GoodIn wsX7_clayTelling wsX7_muddyTelling := goodIn_r _ [10, 1, 2, 3, 4, 5, 6, 11, 12, 13, 14, 15, 16, 17, 18, 19, 20, 21, 22, 23, 24, 25, 26, 27, 28, 29, 30, 31, 32, 33, 34, 35, 36, 37, 38, 39, 40, 41, 42] (by decide +kernel) (by decide +kernel)
set_option maxRecDepth 20000 in
theorem gX7_clayTelling_X7_muddyTelling : GoodIn wsX7_clayTelling (wsV RX7 253 RX7 yX7_muddyTelling wsX7_muddyTelling) := goodIn_app (goodIn_of _ (by decide +kernel)) ggX7_clayTelling_X7_muddyTelling
set_option maxRecDepth 20000 in
theorem ggX7_clayTelling_X7_gravelTelling : GoodIn wsX7_clayTelling wsX7_gravelTelling := goodIn_r _ [14, 15, 1, 2, 3, 4, 5, 6, 16, 17, 18, 19, 20, 21, 22, 23, 24, 25, 26, 27, 28, 29, 30, 31, 32, 33, 34, 35, 36, 37, 38, 39, 40, 41, 42] (by decide +kernel) (by decide +kernel)
set_option maxRecDepth 20000 in
theorem gX7_clayTelling_X7_gravelTelling : GoodIn wsX7_clayTelling (wsV RX7 256 RX7 yX7_gravelTelling wsX7_gravelTelling) := goodIn_app (goodIn_of _ (by decide +kernel)) ggX7_clayTelling_X7_gravelTelling
theorem dX7_clayTelling_0 : decode cX7_clayTelling 0 = .ok (.aload_n 0, 1) := by decide +kernel
theorem dX7_clayTelling_1 : decode cX7_clayTelling 1 = .ok (.iconst 3, 1) := by decide +kernel
theorem dX7_clayTelling_2 : decode cX7_clayTelling 2 = .ok (.invokevirtual 259, 3) := by decide +kernel
theorem dX7_clayTelling_5 : decode cX7_clayTelling 5 = .ok (.aload_n 0, 1) := by decide +kernel
theorem dX7_clayTelling_6 : decode cX7_clayTelling 6 = .ok (.iload_n 1, 1) := by decide +kernel
theorem dX7_clayTelling_7 : decode cX7_clayTelling 7 = .ok (.invokevirtual 253, 3) := by decide +kernel
theorem dX7_clayTelling_10 : decode cX7_clayTelling 10 = .ok (.istore_n 2, 1) := by decide +kernel
theorem dX7_clayTelling_11 : decode cX7_clayTelling 11 = .ok (.iload_n 2, 1) := by decide +kernel
theorem dX7_clayTelling_12 : decode cX7_clayTelling 12 = .ok (.aload_n 0, 1) := by decide +kernel
theorem dX7_clayTelling_13 : decode cX7_clayTelling 13 = .ok (.iload_n 1, 1) := by decide +kernel
theorem dX7_clayTelling_14 : decode cX7_clayTelling 14 = .ok (.invokevirtual 256, 3) := by decide +kernel
theorem dX7_clayTelling_17 : decode cX7_clayTelling 17 = .ok (.iadd, 1) := by decide +kernel
theorem dX7_clayTelling_18 : decode cX7_clayTelling 18 = .ok (.ireturn, 1) := by decide +kernel
theorem dX7_leaveTrace_0 : decode cX7_leaveTrace 0 = .ok (.aload_n 0, 1) := by decide +kernel
theorem dX7_leaveTrace_1 : decode cX7_leaveTrace 1 = .ok (.bipush 31, 2) := by decide +kernel
theorem dX7_leaveTrace_3 : decode cX7_leaveTrace 3 = .ok (.aload_n 0, 1) := by decide +kernel
theorem dX7_leaveTrace_4 : decode cX7_leaveTrace 4 = .ok (.getfield 263, 3) := by decide +kernel
theorem dX7_leaveTrace_7 : decode cX7_leaveTrace 7 = .ok (.imul, 1) := by decide +kernel
theorem dX7_leaveTrace_8 : decode cX7_leaveTrace 8 = .ok (.iload_n 1, 1) := by decide +kernel
theorem dX7_leaveTrace_9 : decode cX7_leaveTrace 9 = .ok (.iadd, 1) := by decide +kernel
theorem dX7_leaveTrace_10 : decode cX7_leaveTrace 10 = .ok (.putfield 263, 3) := by decide +kernel
theorem dX7_leaveTrace_13 : decode cX7_leaveTrace 13 = .ok (.return_, 1) := by decide +kernel
theorem dX7_failed_0 : decode cX7_failed 0 = .ok (.aload_n 0, 1) := by decide +kernel
theorem dX7_failed_1 : decode cX7_failed 1 = .ok (.iload_n 1, 1) := by decide +kernel
theorem dX7_failed_2 : decode cX7_failed 2 = .ok (.putfield 63, 3) := by decide +kernel
theorem dX7_failed_5 : decode cX7_failed 5 = .ok (.bipush (-10), 2) := by decide +kernel
theorem dX7_failed_7 : decode cX7_failed 7 = .ok (.iload_n 1, 1) := by decide +kernel
theorem dX7_failed_8 : decode cX7_failed 8 = .ok (.isub, 1) := by decide +kernel
theorem dX7_failed_9 : decode cX7_failed 9 = .ok (.ireturn, 1) := by decide +kernel
theorem dX7_rowOf_0 : decode cX7_rowOf 0 = .ok (.iload_n 1, 1) := by decide +kernel
theorem dX7_rowOf_1 : decode cX7_rowOf 1 = .ok (.ifCond .lt 21, 3) := by decide +kernel
theorem dX7_rowOf_4 : decode cX7_rowOf 4 = .ok (.iload_n 1, 1) := by decide +kernel
theorem dX7_rowOf_5 : decode cX7_rowOf 5 = .ok (.aload_n 0, 1) := by decide +kernel
theorem dX7_rowOf_6 : decode cX7_rowOf 6 = .ok (.getfield 13, 3) := by decide +kernel
theorem dX7_rowOf_9 : decode cX7_rowOf 9 = .ok (.arraylength, 1) := by decide +kernel
theorem dX7_rowOf_10 : decode cX7_rowOf 10 = .ok (.if_icmp .ge 12, 3) := by decide +kernel
theorem dX7_rowOf_13 : decode cX7_rowOf 13 = .ok (.aload_n 0, 1) := by decide +kernel
theorem dX7_rowOf_14 : decode cX7_rowOf 14 = .ok (.getfield 13, 3) := by decide +kernel
theorem dX7_rowOf_17 : decode cX7_rowOf 17 = .ok (.iload_n 1, 1) := by decide +kernel
theorem dX7_rowOf_18 : decode cX7_rowOf 18 = .ok (.aaload, 1) := by decide +kernel
theorem dX7_rowOf_19 : decode cX7_rowOf 19 = .ok (.goto 4, 3) := by decide +kernel
theorem dX7_rowOf_22 : decode cX7_rowOf 22 = .ok (.aconst_null, 1) := by decide +kernel
theorem dX7_rowOf_23 : decode cX7_rowOf 23 = .ok (.areturn, 1) := by decide +kernel
theorem dX7_isLane_0 : decode cX7_isLane 0 = .ok (.iload_n 0, 1) := by decide +kernel
theorem dX7_isLane_1 : decode cX7_isLane 1 = .ok (.ifCond .lt 12, 3) := by decide +kernel
theorem dX7_isLane_4 : decode cX7_isLane 4 = .ok (.iload_n 0, 1) := by decide +kernel
theorem dX7_isLane_5 : decode cX7_isLane 5 = .ok (.iconst 2, 1) := by decide +kernel
theorem dX7_isLane_6 : decode cX7_isLane 6 = .ok (.if_icmp .gt 7, 3) := by decide +kernel
theorem dX7_isLane_9 : decode cX7_isLane 9 = .ok (.iconst 1, 1) := by decide +kernel
theorem dX7_isLane_10 : decode cX7_isLane 10 = .ok (.goto 4, 3) := by decide +kernel
theorem dX7_isLane_13 : decode cX7_isLane 13 = .ok (.iconst 0, 1) := by decide +kernel
theorem dX7_isLane_14 : decode cX7_isLane 14 = .ok (.ireturn, 1) := by decide +kernel
theorem dX7_isUpperOrLower_0 : decode cX7_isUpperOrLower 0 = .ok (.iload_n 0, 1) := by decide +kernel
theorem dX7_isUpperOrLower_1 : decode cX7_isUpperOrLower 1 = .ok (.ifCond .eq 8, 3) := by decide +kernel
theorem dX7_isUpperOrLower_4 : decode cX7_isUpperOrLower 4 = .ok (.iload_n 0, 1) := by decide +kernel
theorem dX7_isUpperOrLower_5 : decode cX7_isUpperOrLower 5 = .ok (.iconst 1, 1) := by decide +kernel
theorem dX7_isUpperOrLower_6 : decode cX7_isUpperOrLower 6 = .ok (.if_icmp .ne 7, 3) := by decide +kernel
theorem dX7_isUpperOrLower_9 : decode cX7_isUpperOrLower 9 = .ok (.iconst 1, 1) := by decide +kernel
theorem dX7_isUpperOrLower_10 : decode cX7_isUpperOrLower 10 = .ok (.goto 4, 3) := by decide +kernel
theorem dX7_isUpperOrLower_13 : decode cX7_isUpperOrLower 13 = .ok (.iconst 0, 1) := by decide +kernel
theorem dX7_isUpperOrLower_14 : decode cX7_isUpperOrLower 14 = .ok (.ireturn, 1) := by decide +kernel
theorem dX7_asBit_0 : decode cX7_asBit 0 = .ok (.iload_n 0, 1) := by decide +kernel
theorem dX7_asBit_1 : decode cX7_asBit 1 = .ok (.ifCond .eq 7, 3) := by decide +kernel
theorem dX7_asBit_4 : decode cX7_asBit 4 = .ok (.iconst 1, 1) := by decide +kernel
theorem dX7_asBit_5 : decode cX7_asBit 5 = .ok (.goto 4, 3) := by decide +kernel
theorem dX7_asBit_8 : decode cX7_asBit 8 = .ok (.iconst 0, 1) := by decide +kernel
theorem dX7_asBit_9 : decode cX7_asBit 9 = .ok (.ireturn, 1) := by decide +kernel
theorem dX7_cellOf_0 : decode cX7_cellOf 0 = .ok (.iload_n 0, 1) := by decide +kernel
theorem dX7_cellOf_1 : decode cX7_cellOf 1 = .ok (.iconst 4, 1) := by decide +kernel
theorem dX7_cellOf_2 : decode cX7_cellOf 2 = .ok (.idiv, 1) := by decide +kernel
theorem dX7_cellOf_3 : decode cX7_cellOf 3 = .ok (.ireturn, 1) := by decide +kernel
theorem dX7_paceOf_0 : decode cX7_paceOf 0 = .ok (.iload_n 0, 1) := by decide +kernel
theorem dX7_paceOf_1 : decode cX7_paceOf 1 = .ok (.iconst 4, 1) := by decide +kernel
theorem dX7_paceOf_2 : decode cX7_paceOf 2 = .ok (.irem, 1) := by decide +kernel
theorem dX7_paceOf_3 : decode cX7_paceOf 3 = .ok (.ireturn, 1) := by decide +kernel
theorem dX7_tenTo_0 : decode cX7_tenTo 0 = .ok (.lconst 1, 1) := by decide +kernel
theorem dX7_tenTo_1 : decode cX7_tenTo 1 = .ok (.lstore_n 1, 1) := by decide +kernel
theorem dX7_tenTo_2 : decode cX7_tenTo 2 = .ok (.iconst 0, 1) := by decide +kernel
theorem dX7_tenTo_3 : decode cX7_tenTo 3 = .ok (.istore_n 3, 1) := by decide +kernel
theorem dX7_tenTo_4 : decode cX7_tenTo 4 = .ok (.iload_n 3, 1) := by decide +kernel
theorem dX7_tenTo_5 : decode cX7_tenTo 5 = .ok (.iload_n 0, 1) := by decide +kernel
theorem dX7_tenTo_6 : decode cX7_tenTo 6 = .ok (.if_icmp .ge 15, 3) := by decide +kernel
theorem dX7_tenTo_9 : decode cX7_tenTo 9 = .ok (.lload_n 1, 1) := by decide +kernel
theorem dX7_tenTo_10 : decode cX7_tenTo 10 = .ok (.ldc2_w 269, 3) := by decide +kernel
theorem dX7_tenTo_13 : decode cX7_tenTo 13 = .ok (.lmul, 1) := by decide +kernel
theorem dX7_tenTo_14 : decode cX7_tenTo 14 = .ok (.lstore_n 1, 1) := by decide +kernel
theorem dX7_tenTo_15 : decode cX7_tenTo 15 = .ok (.iinc 3 1, 3) := by decide +kernel
theorem dX7_tenTo_18 : decode cX7_tenTo 18 = .ok (.goto (-14), 3) := by decide +kernel
theorem dX7_tenTo_21 : decode cX7_tenTo 21 = .ok (.lload_n 1, 1) := by decide +kernel
theorem dX7_tenTo_22 : decode cX7_tenTo 22 = .ok (.lreturn, 1) := by decide +kernel
theorem dX7_inLeastTerms_0 : decode cX7_inLeastTerms 0 = .ok (.lload_n 0, 1) := by decide +kernel
theorem dX7_inLeastTerms_1 : decode cX7_inLeastTerms 1 = .ok (.lstore 5, 2) := by decide +kernel
theorem dX7_inLeastTerms_3 : decode cX7_inLeastTerms 3 = .ok (.lload_n 2, 1) := by decide +kernel
theorem dX7_inLeastTerms_4 : decode cX7_inLeastTerms 4 = .ok (.lstore 7, 2) := by decide +kernel
theorem dX7_inLeastTerms_6 : decode cX7_inLeastTerms 6 = .ok (.iconst 0, 1) := by decide +kernel
theorem dX7_inLeastTerms_7 : decode cX7_inLeastTerms 7 = .ok (.istore 9, 2) := by decide +kernel
theorem dX7_inLeastTerms_9 : decode cX7_inLeastTerms 9 = .ok (.iload 9, 2) := by decide +kernel
theorem dX7_inLeastTerms_11 : decode cX7_inLeastTerms 11 = .ok (.sipush 200, 3) := by decide +kernel
theorem dX7_inLeastTerms_14 : decode cX7_inLeastTerms 14 = .ok (.if_icmp .ge 31, 3) := by decide +kernel
theorem dX7_inLeastTerms_17 : decode cX7_inLeastTerms 17 = .ok (.lload 7, 2) := by decide +kernel
theorem dX7_inLeastTerms_19 : decode cX7_inLeastTerms 19 = .ok (.lconst 0, 1) := by decide +kernel
theorem dX7_inLeastTerms_20 : decode cX7_inLeastTerms 20 = .ok (.lcmp, 1) := by decide +kernel
theorem dX7_inLeastTerms_21 : decode cX7_inLeastTerms 21 = .ok (.ifCond .eq 24, 3) := by decide +kernel
theorem dX7_inLeastTerms_24 : decode cX7_inLeastTerms 24 = .ok (.lload 5, 2) := by decide +kernel
theorem dX7_inLeastTerms_26 : decode cX7_inLeastTerms 26 = .ok (.lload 7, 2) := by decide +kernel
theorem dX7_inLeastTerms_28 : decode cX7_inLeastTerms 28 = .ok (.lrem, 1) := by decide +kernel
theorem dX7_inLeastTerms_29 : decode cX7_inLeastTerms 29 = .ok (.lstore 10, 2) := by decide +kernel
theorem dX7_inLeastTerms_31 : decode cX7_inLeastTerms 31 = .ok (.lload 7, 2) := by decide +kernel
theorem dX7_inLeastTerms_33 : decode cX7_inLeastTerms 33 = .ok (.lstore 5, 2) := by decide +kernel
theorem dX7_inLeastTerms_35 : decode cX7_inLeastTerms 35 = .ok (.lload 10, 2) := by decide +kernel
theorem dX7_inLeastTerms_37 : decode cX7_inLeastTerms 37 = .ok (.lstore 7, 2) := by decide +kernel
theorem dX7_inLeastTerms_39 : decode cX7_inLeastTerms 39 = .ok (.iinc 9 1, 3) := by decide +kernel
theorem dX7_inLeastTerms_42 : decode cX7_inLeastTerms 42 = .ok (.goto (-33), 3) := by decide +kernel
theorem dX7_inLeastTerms_45 : decode cX7_inLeastTerms 45 = .ok (.iload 4, 2) := by decide +kernel
theorem dX7_inLeastTerms_47 : decode cX7_inLeastTerms 47 = .ok (.ifCond .ne 7, 3) := by decide +kernel
theorem dX7_inLeastTerms_50 : decode cX7_inLeastTerms 50 = .ok (.lload_n 0, 1) := by decide +kernel
theorem dX7_inLeastTerms_51 : decode cX7_inLeastTerms 51 = .ok (.goto 4, 3) := by decide +kernel
theorem dX7_inLeastTerms_54 : decode cX7_inLeastTerms 54 = .ok (.lload_n 2, 1) := by decide +kernel
theorem dX7_inLeastTerms_55 : decode cX7_inLeastTerms 55 = .ok (.lstore 9, 2) := by decide +kernel
theorem dX7_inLeastTerms_57 : decode cX7_inLeastTerms 57 = .ok (.lload 5, 2) := by decide +kernel
theorem dX7_inLeastTerms_59 : decode cX7_inLeastTerms 59 = .ok (.lconst 1, 1) := by decide +kernel
theorem dX7_inLeastTerms_60 : decode cX7_inLeastTerms 60 = .ok (.lcmp, 1) := by decide +kernel
theorem dX7_inLeastTerms_61 : decode cX7_inLeastTerms 61 = .ok (.ifCond .le 11, 3) := by decide +kernel
theorem dX7_inLeastTerms_64 : decode cX7_inLeastTerms 64 = .ok (.lload 9, 2) := by decide +kernel
theorem dX7_inLeastTerms_66 : decode cX7_inLeastTerms 66 = .ok (.lload 5, 2) := by decide +kernel
theorem dX7_inLeastTerms_68 : decode cX7_inLeastTerms 68 = .ok (.ldiv, 1) := by decide +kernel
theorem dX7_inLeastTerms_69 : decode cX7_inLeastTerms 69 = .ok (.goto 5, 3) := by decide +kernel
theorem dX7_inLeastTerms_72 : decode cX7_inLeastTerms 72 = .ok (.lload 9, 2) := by decide +kernel
theorem dX7_inLeastTerms_74 : decode cX7_inLeastTerms 74 = .ok (.lreturn, 1) := by decide +kernel
theorem dX7_dryTenths_0 : decode cX7_dryTenths 0 = .ok (.iload_n 0, 1) := by decide +kernel
theorem dX7_dryTenths_1 : decode cX7_dryTenths 1 = .ok (.lookupswitch 39 #[(0, 27), (2, 32)], 27) := by decide +kernel
theorem dX7_dryTenths_28 : decode cX7_dryTenths 28 = .ok (.bipush 10, 2) := by decide +kernel
theorem dX7_dryTenths_30 : decode cX7_dryTenths 30 = .ok (.iload_n 1, 1) := by decide +kernel
theorem dX7_dryTenths_31 : decode cX7_dryTenths 31 = .ok (.isub, 1) := by decide +kernel
theorem dX7_dryTenths_32 : decode cX7_dryTenths 32 = .ok (.ireturn, 1) := by decide +kernel
theorem dX7_dryTenths_33 : decode cX7_dryTenths 33 = .ok (.bipush 10, 2) := by decide +kernel
theorem dX7_dryTenths_35 : decode cX7_dryTenths 35 = .ok (.iload_n 1, 1) := by decide +kernel
theorem dX7_dryTenths_36 : decode cX7_dryTenths 36 = .ok (.iconst 2, 1) := by decide +kernel
theorem dX7_dryTenths_37 : decode cX7_dryTenths 37 = .ok (.idiv, 1) := by decide +kernel
theorem dX7_dryTenths_38 : decode cX7_dryTenths 38 = .ok (.isub, 1) := by decide +kernel
theorem dX7_dryTenths_39 : decode cX7_dryTenths 39 = .ok (.ireturn, 1) := by decide +kernel
theorem dX7_dryTenths_40 : decode cX7_dryTenths 40 = .ok (.bipush 10, 2) := by decide +kernel
