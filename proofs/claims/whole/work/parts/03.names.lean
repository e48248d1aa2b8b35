set_option maxRecDepth 20000 in
theorem ggX7_init_X2_init : GoodIn wsX7_init wsX2_init := goodIn_r _ [34, 35, 2, 3, 36, 37, 38, 39, 40, 41, 80, 81, 82, 83, 84, 85] (by decide +kernel) (by decide +kernel)
set_option maxRecDepth 20000 in
theorem gX7_init_X2_init_n19 : GoodIn wsX7_init (wsX2_init) := ggX7_init_X2_init
set_option maxRecDepth 20000 in
theorem ggX7_init_X5_init : GoodIn wsX7_init wsX5_init := goodIn_r _ [43, 44, 2, 3] (by decide +kernel) (by decide +kernel)
set_option maxRecDepth 20000 in
theorem gX7_init_X5_init_n29 : GoodIn wsX7_init (wsX5_init) := ggX7_init_X5_init
set_option maxRecDepth 20000 in
theorem ggX7_init_X0_init : GoodIn wsX7_init wsX0_init := goodIn_r _ [46, 47, 2, 3, 36, 48, 49, 50, 87, 88, 89, 90, 91] (by decide +kernel) (by decide +kernel)
set_option maxRecDepth 20000 in
theorem gX7_init_X0_init_n36 : GoodIn wsX7_init (wsX0_init) := ggX7_init_X0_init
set_option maxRecDepth 20000 in
theorem ggX7_init_X1_init : GoodIn wsX7_init wsX1_init := goodIn_r _ [52, 53, 2, 3, 36, 54, 55, 92, 93, 94] (by decide +kernel) (by decide +kernel)
set_option maxRecDepth 20000 in
theorem gX7_init_X1_init_n43 : GoodIn wsX7_init (wsX1_init) := ggX7_init_X1_init
set_option maxRecDepth 20000 in
theorem ggX7_init_X4_init : GoodIn wsX7_init wsX4_init := goodIn_r _ [57, 58, 2, 3, 59, 60, 95, 96] (by decide +kernel) (by decide +kernel)
set_option maxRecDepth 20000 in
theorem gX7_init_X4_init_n50 : GoodIn wsX7_init (wsX4_init) := ggX7_init_X4_init
set_option maxRecDepth 20000 in
theorem ggX7_init_X6_init : GoodIn wsX7_init wsX6_init := goodIn_r _ [62, 63, 2, 3, 36, 64, 97] (by decide +kernel) (by decide +kernel)
set_option maxRecDepth 20000 in
theorem gX7_init_X6_init_n57 : GoodIn wsX7_init (wsX6_init) := ggX7_init_X6_init
set_option maxRecDepth 20000 in
theorem ggX7_init_X3_init : GoodIn wsX7_init wsX3_init := goodIn_r _ [66, 67, 2, 3, 36, 68, 69, 98, 99, 100] (by decide +kernel) (by decide +kernel)
set_option maxRecDepth 20000 in
theorem gX7_init_X3_init_n62 : GoodIn wsX7_init (wsX3_init) := ggX7_init_X3_init
theorem dX7_init_0 : decode cX7_init 0 = .ok (.aload_n 0, 1) := by decide +kernel
theorem dX7_init_1 : decode cX7_init 1 = .ok (.invokespecial 5, 3) := by decide +kernel
theorem dX7_init_4 : decode cX7_init 4 = .ok (.aload_n 0, 1) := by decide +kernel
theorem dX7_init_5 : decode cX7_init 5 = .ok (.iconst 4, 1) := by decide +kernel
theorem dX7_init_6 : decode cX7_init 6 = .ok (.anewarray 11, 3) := by decide +kernel
theorem dX7_init_9 : decode cX7_init 9 = .ok (.putfield 13, 3) := by decide +kernel
theorem dX7_init_12 : decode cX7_init 12 = .ok (.aload_n 0, 1) := by decide +kernel
theorem dX7_init_13 : decode cX7_init 13 = .ok (.new 17, 3) := by decide +kernel
theorem dX7_init_16 : decode cX7_init 16 = .ok (.dup, 1) := by decide +kernel
theorem dX7_init_17 : decode cX7_init 17 = .ok (.invokespecial 19, 3) := by decide +kernel
theorem dX7_init_20 : decode cX7_init 20 = .ok (.putfield 20, 3) := by decide +kernel
theorem dX7_init_23 : decode cX7_init 23 = .ok (.aload_n 0, 1) := by decide +kernel
theorem dX7_init_24 : decode cX7_init 24 = .ok (.new 17, 3) := by decide +kernel
theorem dX7_init_27 : decode cX7_init 27 = .ok (.dup, 1) := by decide +kernel
theorem dX7_init_28 : decode cX7_init 28 = .ok (.invokespecial 19, 3) := by decide +kernel
theorem dX7_init_31 : decode cX7_init 31 = .ok (.putfield 24, 3) := by decide +kernel
theorem dX7_init_34 : decode cX7_init 34 = .ok (.aload_n 0, 1) := by decide +kernel
theorem dX7_init_35 : decode cX7_init 35 = .ok (.new 27, 3) := by decide +kernel
theorem dX7_init_38 : decode cX7_init 38 = .ok (.dup, 1) := by decide +kernel
theorem dX7_init_39 : decode cX7_init 39 = .ok (.invokespecial 29, 3) := by decide +kernel
theorem dX7_init_42 : decode cX7_init 42 = .ok (.putfield 30, 3) := by decide +kernel
theorem dX7_init_45 : decode cX7_init 45 = .ok (.aload_n 0, 1) := by decide +kernel
theorem dX7_init_46 : decode cX7_init 46 = .ok (.new 34, 3) := by decide +kernel
theorem dX7_init_49 : decode cX7_init 49 = .ok (.dup, 1) := by decide +kernel
theorem dX7_init_50 : decode cX7_init 50 = .ok (.invokespecial 36, 3) := by decide +kernel
theorem dX7_init_53 : decode cX7_init 53 = .ok (.putfield 37, 3) := by decide +kernel
theorem dX7_init_56 : decode cX7_init 56 = .ok (.aload_n 0, 1) := by decide +kernel
theorem dX7_init_57 : decode cX7_init 57 = .ok (.new 41, 3) := by decide +kernel
theorem dX7_init_60 : decode cX7_init 60 = .ok (.dup, 1) := by decide +kernel
theorem dX7_init_61 : decode cX7_init 61 = .ok (.invokespecial 43, 3) := by decide +kernel
theorem dX7_init_64 : decode cX7_init 64 = .ok (.putfield 44, 3) := by decide +kernel
theorem dX7_init_67 : decode cX7_init 67 = .ok (.aload_n 0, 1) := by decide +kernel
theorem dX7_init_68 : decode cX7_init 68 = .ok (.new 48, 3) := by decide +kernel
theorem dX7_init_71 : decode cX7_init 71 = .ok (.dup, 1) := by decide +kernel
theorem dX7_init_72 : decode cX7_init 72 = .ok (.invokespecial 50, 3) := by decide +kernel
theorem dX7_init_75 : decode cX7_init 75 = .ok (.putfield 51, 3) := by decide +kernel
theorem dX7_init_78 : decode cX7_init 78 = .ok (.aload_n 0, 1) := by decide +kernel
theorem dX7_init_79 : decode cX7_init 79 = .ok (.new 55, 3) := by decide +kernel
theorem dX7_init_82 : decode cX7_init 82 = .ok (.dup, 1) := by decide +kernel
theorem dX7_init_83 : decode cX7_init 83 = .ok (.invokespecial 57, 3) := by decide +kernel
theorem dX7_init_86 : decode cX7_init 86 = .ok (.putfield 58, 3) := by decide +kernel
theorem dX7_init_89 : decode cX7_init 89 = .ok (.iconst 0, 1) := by decide +kernel
theorem dX7_init_90 : decode cX7_init 90 = .ok (.istore_n 1, 1) := by decide +kernel
theorem dX7_init_91 : decode cX7_init 91 = .ok (.iload_n 1, 1) := by decide +kernel
theorem dX7_init_92 : decode cX7_init 92 = .ok (.iconst 4, 1) := by decide +kernel
theorem dX7_init_93 : decode cX7_init 93 = .ok (.if_icmp .ge 22, 3) := by decide +kernel
theorem dX7_init_96 : decode cX7_init 96 = .ok (.aload_n 0, 1) := by decide +kernel
theorem dX7_init_97 : decode cX7_init 97 = .ok (.getfield 13, 3) := by decide +kernel
theorem dX7_init_100 : decode cX7_init 100 = .ok (.iload_n 1, 1) := by decide +kernel
theorem dX7_init_101 : decode cX7_init 101 = .ok (.new 11, 3) := by decide +kernel
theorem dX7_init_104 : decode cX7_init 104 = .ok (.dup, 1) := by decide +kernel
theorem dX7_init_105 : decode cX7_init 105 = .ok (.invokespecial 62, 3) := by decide +kernel
theorem dX7_init_108 : decode cX7_init 108 = .ok (.aastore, 1) := by decide +kernel
theorem dX7_init_109 : decode cX7_init 109 = .ok (.iinc 1 1, 3) := by decide +kernel
theorem dX7_init_112 : decode cX7_init 112 = .ok (.goto (-21), 3) := by decide +kernel
theorem dX7_init_115 : decode cX7_init 115 = .ok (.return_, 1) := by decide +kernel
set_option maxRecDepth 20000 in
theorem ggX7_river_X7_rowOf : GoodIn wsX7_river wsX7_rowOf := goodIn_r _ [9, 10, 111, 112, 113, 114, 115, 116, 117, 118, 119, 120] (by decide +kernel) (by decide +kernel)
set_option maxRecDepth 20000 in
theorem gX7_river_X7_rowOf : GoodIn wsX7_river (wsV RX7 67 RX7 yX7_rowOf wsX7_rowOf) := goodIn_app (goodIn_of _ (by decide +kernel)) ggX7_river_X7_rowOf
set_option maxRecDepth 20000 in
theorem ggX7_river_X7_isLane : GoodIn wsX7_river wsX7_isLane := goodIn_r _ [13] (by decide +kernel) (by decide +kernel)
set_option maxRecDepth 20000 in
theorem gX7_river_X7_isLane : GoodIn wsX7_river (va_wsS RX7 71 yX7_isLane wsX7_isLane) := goodIn_app (goodIn_of _ (by decide +kernel)) ggX7_river_X7_isLane
set_option maxRecDepth 20000 in
theorem ggX7_river_X3_faultAs : GoodIn wsX7_river wsX3_faultAs := goodIn_r _ [18, 19, 20, 21, 22, 17, 23, 127, 128, 129] (by decide +kernel) (by decide +kernel)
set_option maxRecDepth 20000 in
theorem gX7_river_X3_faultAs : GoodIn wsX7_river (wsV RX7 75 RX3 yX3_faultAs wsX3_faultAs) := goodIn_app (goodIn_of _ (by decide +kernel)) ggX7_river_X3_faultAs
set_option maxRecDepth 20000 in
theorem ggX7_river_X7_failed : GoodIn wsX7_river wsX7_failed := goodIn_r _ [27, 1, 111, 112, 113, 114, 115, 116, 117, 118, 119, 120] (by decide +kernel) (by decide +kernel)
set_option maxRecDepth 20000 in
theorem gX7_river_X7_failed : GoodIn wsX7_river (wsV RX7 79 RX7 yX7_failed wsX7_failed) := goodIn_app (goodIn_of _ (by decide +kernel)) ggX7_river_X7_failed
set_option maxRecDepth 20000 in
theorem ggX7_river_X3_hasStretch : GoodIn wsX7_river wsX3_hasStretch := goodIn_r _ [31, 32, 127, 128, 129] (by decide +kernel) (by decide +kernel)
set_option maxRecDepth 20000 in
theorem gX7_river_X3_hasStretch : GoodIn wsX7_river (wsV RX7 82 RX3 yX3_hasStretch wsX3_hasStretch) := goodIn_app (goodIn_of _ (by decide +kernel)) ggX7_river_X3_hasStretch
set_option maxRecDepth 20000 in
theorem ggX7_river_X5_firstFault : GoodIn wsX7_river wsX5_firstFault := goodIn_r _ [37, 38, 39, 40, 41, 42, 43, 44, 45, 46, 47, 48, 17, 49, 50, 51, 52, 53, 54, 32, 55, 56, 57, 36, 58, 59, 60, 61, 62, 63, 64, 65, 66, 67, 68, 69, 70, 71, 72, 73, 74, 75, 76, 77, 78, 79, 80, 81, 82, 83, 84, 85, 86, 87, 88, 89, 90, 91, 92, 93, 94, 95, 96, 97, 98, 130, 121, 122, 123, 124, 125, 126, 127, 128, 129] (by decide +kernel) (by decide +kernel)
set_option maxRecDepth 20000 in
theorem gX7_river_X5_firstFault : GoodIn wsX7_river (wsV RX7 86 RX5 yX5_firstFault wsX5_firstFault) := goodIn_app (goodIn_of _ (by decide +kernel)) ggX7_river_X5_firstFault
set_option maxRecDepth 20000 in
theorem ggX7_river_X7_takeDraft : GoodIn wsX7_river wsX7_takeDraft := goodIn_r _ [102, 4, 3, 103, 104, 105, 106, 107, 108, 109, 110, 111, 112, 113, 114, 115, 116, 117, 118, 119, 120, 131, 132, 133, 134, 135] (by decide +kernel) (by decide +kernel)
set_option maxRecDepth 20000 in
theorem gX7_river_X7_takeDraft : GoodIn wsX7_river (wsV RX7 90 RX7 yX7_takeDraft wsX7_takeDraft) := goodIn_app (goodIn_of _ (by decide +kernel)) ggX7_river_X7_takeDraft
theorem dX7_river_0 : decode cX7_river 0 = .ok (.aload_n 0, 1) := by decide +kernel
theorem dX7_river_1 : decode cX7_river 1 = .ok (.iconst 0, 1) := by decide +kernel
theorem dX7_river_2 : decode cX7_river 2 = .ok (.putfield 63, 3) := by decide +kernel
theorem dX7_river_5 : decode cX7_river 5 = .ok (.aload_n 0, 1) := by decide +kernel
theorem dX7_river_6 : decode cX7_river 6 = .ok (.iload_n 1, 1) := by decide +kernel
theorem dX7_river_7 : decode cX7_river 7 = .ok (.invokevirtual 67, 3) := by decide +kernel
theorem dX7_river_10 : decode cX7_river 10 = .ok (.astore 5, 2) := by decide +kernel
theorem dX7_river_12 : decode cX7_river 12 = .ok (.aload 5, 2) := by decide +kernel
theorem dX7_river_14 : decode cX7_river 14 = .ok (.ifnonnull 5, 3) := by decide +kernel
theorem dX7_river_17 : decode cX7_river 17 = .ok (.iconst (-1), 1) := by decide +kernel
theorem dX7_river_18 : decode cX7_river 18 = .ok (.ireturn, 1) := by decide +kernel
theorem dX7_river_19 : decode cX7_river 19 = .ok (.iload_n 2, 1) := by decide +kernel
theorem dX7_river_20 : decode cX7_river 20 = .ok (.invokestatic 71, 3) := by decide +kernel
theorem dX7_river_23 : decode cX7_river 23 = .ok (.ifCond .ne 6, 3) := by decide +kernel
theorem dX7_river_26 : decode cX7_river 26 = .ok (.bipush (-2), 2) := by decide +kernel
theorem dX7_river_28 : decode cX7_river 28 = .ok (.ireturn, 1) := by decide +kernel
theorem dX7_river_29 : decode cX7_river 29 = .ok (.aload 5, 2) := by decide +kernel
theorem dX7_river_31 : decode cX7_river 31 = .ok (.iload_n 2, 1) := by decide +kernel
theorem dX7_river_32 : decode cX7_river 32 = .ok (.invokevirtual 75, 3) := by decide +kernel
theorem dX7_river_35 : decode cX7_river 35 = .ok (.istore 6, 2) := by decide +kernel
theorem dX7_river_37 : decode cX7_river 37 = .ok (.iload 6, 2) := by decide +kernel
theorem dX7_river_39 : decode cX7_river 39 = .ok (.ifCond .eq 10, 3) := by decide +kernel
theorem dX7_river_42 : decode cX7_river 42 = .ok (.aload_n 0, 1) := by decide +kernel
theorem dX7_river_43 : decode cX7_river 43 = .ok (.iload 6, 2) := by decide +kernel
theorem dX7_river_45 : decode cX7_river 45 = .ok (.invokevirtual 79, 3) := by decide +kernel
theorem dX7_river_48 : decode cX7_river 48 = .ok (.ireturn, 1) := by decide +kernel
theorem dX7_river_49 : decode cX7_river 49 = .ok (.iload 4, 2) := by decide +kernel
theorem dX7_river_51 : decode cX7_river 51 = .ok (.ifCond .ge 9, 3) := by decide +kernel
theorem dX7_river_54 : decode cX7_river 54 = .ok (.aload_n 0, 1) := by decide +kernel
theorem dX7_river_55 : decode cX7_river 55 = .ok (.iconst 4, 1) := by decide +kernel
theorem dX7_river_56 : decode cX7_river 56 = .ok (.invokevirtual 79, 3) := by decide +kernel
theorem dX7_river_59 : decode cX7_river 59 = .ok (.ireturn, 1) := by decide +kernel
theorem dX7_river_60 : decode cX7_river 60 = .ok (.aload 5, 2) := by decide +kernel
theorem dX7_river_62 : decode cX7_river 62 = .ok (.iload_n 3, 1) := by decide +kernel
theorem dX7_river_63 : decode cX7_river 63 = .ok (.iload 4, 2) := by decide +kernel
theorem dX7_river_65 : decode cX7_river 65 = .ok (.invokevirtual 82, 3) := by decide +kernel
theorem dX7_river_68 : decode cX7_river 68 = .ok (.ifCond .ne 9, 3) := by decide +kernel
theorem dX7_river_71 : decode cX7_river 71 = .ok (.aload_n 0, 1) := by decide +kernel
theorem dX7_river_72 : decode cX7_river 72 = .ok (.iconst 3, 1) := by decide +kernel
theorem dX7_river_73 : decode cX7_river 73 = .ok (.invokevirtual 79, 3) := by decide +kernel
theorem dX7_river_76 : decode cX7_river 76 = .ok (.ireturn, 1) := by decide +kernel
theorem dX7_river_77 : decode cX7_river 77 = .ok (.aload_n 0, 1) := by decide +kernel
theorem dX7_river_78 : decode cX7_river 78 = .ok (.getfield 30, 3) := by decide +kernel
theorem dX7_river_81 : decode cX7_river 81 = .ok (.aload 5, 2) := by decide +kernel
theorem dX7_river_83 : decode cX7_river 83 = .ok (.iload_n 3, 1) := by decide +kernel
theorem dX7_river_84 : decode cX7_river 84 = .ok (.iload 4, 2) := by decide +kernel
theorem dX7_river_86 : decode cX7_river 86 = .ok (.aload_n 0, 1) := by decide +kernel
theorem dX7_river_87 : decode cX7_river 87 = .ok (.getfield 24, 3) := by decide +kernel
theorem dX7_river_90 : decode cX7_river 90 = .ok (.invokevirtual 86, 3) := by decide +kernel
theorem dX7_river_93 : decode cX7_river 93 = .ok (.istore 7, 2) := by decide +kernel
theorem dX7_river_95 : decode cX7_river 95 = .ok (.iload 7, 2) := by decide +kernel
theorem dX7_river_97 : decode cX7_river 97 = .ok (.bipush (-9), 2) := by decide +kernel
theorem dX7_river_99 : decode cX7_river 99 = .ok (.if_icmp .eq 9, 3) := by decide +kernel
theorem dX7_river_102 : decode cX7_river 102 = .ok (.bipush (-100), 2) := by decide +kernel
theorem dX7_river_104 : decode cX7_river 104 = .ok (.iload 7, 2) := by decide +kernel
theorem dX7_river_106 : decode cX7_river 106 = .ok (.isub, 1) := by decide +kernel
theorem dX7_river_107 : decode cX7_river 107 = .ok (.ireturn, 1) := by decide +kernel
theorem dX7_river_108 : decode cX7_river 108 = .ok (.aload_n 0, 1) := by decide +kernel
theorem dX7_river_109 : decode cX7_river 109 = .ok (.invokevirtual 90, 3) := by decide +kernel
theorem dX7_river_112 : decode cX7_river 112 = .ok (.aload_n 0, 1) := by decide +kernel
theorem dX7_river_113 : decode cX7_river 113 = .ok (.getfield 20, 3) := by decide +kernel
theorem dX7_river_116 : decode cX7_river 116 = .ok (.getfield 93, 3) := by decide +kernel
theorem dX7_river_119 : decode cX7_river 119 = .ok (.ireturn, 1) := by decide +kernel
set_option maxRecDepth 20000 in
theorem ggX7_ofCell_X2_has : GoodIn wsX7_ofCell wsX2_has := goodIn_r _ [6, 7, 57, 58, 59, 60, 61, 62] (by decide +kernel) (by decide +kernel)
set_option maxRecDepth 20000 in
theorem gX7_ofCell_X2_has : GoodIn wsX7_ofCell (wsV RX7 96 RX2 yX2_has wsX2_has) := goodIn_app (goodIn_of _ (by decide +kernel)) ggX7_ofCell_X2_has
set_option maxRecDepth 20000 in
theorem ggX7_ofCell_X2_kindOf : GoodIn wsX7_ofCell wsX2_kindOf := goodIn_r _ [11, 12, 13, 3, 4, 5, 6, 7, 57, 58, 59, 60, 61, 62] (by decide +kernel) (by decide +kernel)
set_option maxRecDepth 20000 in
theorem gX7_ofCell_X2_kindOf : GoodIn wsX7_ofCell (wsV RX7 99 RX2 yX2_kindOf wsX2_kindOf) := goodIn_app (goodIn_of _ (by decide +kernel)) ggX7_ofCell_X2_kindOf
set_option maxRecDepth 20000 in
theorem ggX7_ofCell_X2_mudOf : GoodIn wsX7_ofCell wsX2_mudOf := goodIn_r _ [17, 18, 13, 3, 4, 5, 6, 7, 57, 58, 59, 60, 61, 62] (by decide +kernel) (by decide +kernel)
set_option maxRecDepth 20000 in
theorem gX7_ofCell_X2_mudOf : GoodIn wsX7_ofCell (wsV RX7 102 RX2 yX2_mudOf wsX2_mudOf) := goodIn_app (goodIn_of _ (by decide +kernel)) ggX7_ofCell_X2_mudOf
set_option maxRecDepth 20000 in
theorem ggX7_ofCell_X2_holdsIn : GoodIn wsX7_ofCell wsX2_holdsIn := goodIn_r _ [22, 23, 9, 10, 5, 11, 12, 13, 3, 4, 6, 7, 24, 15, 16, 17, 18, 25, 26, 27, 28, 29, 30, 31, 32, 33, 57, 58, 59, 60, 61, 62] (by decide +kernel) (by decide +kernel)
set_option maxRecDepth 20000 in
theorem gX7_ofCell_X2_holdsIn : GoodIn wsX7_ofCell (wsV RX7 105 RX2 yX2_holdsIn wsX2_holdsIn) := goodIn_app (goodIn_of _ (by decide +kernel)) ggX7_ofCell_X2_holdsIn
set_option maxRecDepth 20000 in
theorem ggX7_ofCell_X2_isDeep : GoodIn wsX7_ofCell wsX2_isDeep := goodIn_r _ [37, 29, 13, 3, 4, 5, 6, 7, 57, 58, 59, 60, 61, 62] (by decide +kernel) (by decide +kernel)
set_option maxRecDepth 20000 in
theorem gX7_ofCell_X2_isDeep : GoodIn wsX7_ofCell (wsV RX7 108 RX2 yX2_isDeep wsX2_isDeep) := goodIn_app (goodIn_of _ (by decide +kernel)) ggX7_ofCell_X2_isDeep
set_option maxRecDepth 20000 in
theorem ggX7_ofCell_X7_asBit : GoodIn wsX7_ofCell wsX7_asBit := goodIn_r _ [41] (by decide +kernel) (by decide +kernel)
set_option maxRecDepth 20000 in
theorem gX7_ofCell_X7_asBit : GoodIn wsX7_ofCell (va_wsS RX7 111 yX7_asBit wsX7_asBit) := goodIn_app (goodIn_of _ (by decide +kernel)) ggX7_ofCell_X7_asBit
set_option maxRecDepth 20000 in
theorem ggX7_ofCell_X2_isBridged : GoodIn wsX7_ofCell wsX2_isBridged := goodIn_r _ [45, 46, 13, 3, 4, 5, 6, 7, 57, 58, 59, 60, 61, 62] (by decide +kernel) (by decide +kernel)
set_option maxRecDepth 20000 in
theorem gX7_ofCell_X2_isBridged : GoodIn wsX7_ofCell (wsV RX7 115 RX2 yX2_isBridged wsX2_isBridged) := goodIn_app (goodIn_of _ (by decide +kernel)) ggX7_ofCell_X2_isBridged
theorem dX7_ofCell_0 : decode cX7_ofCell 0 = .ok (.aload_n 0, 1) := by decide +kernel
theorem dX7_ofCell_1 : decode cX7_ofCell 1 = .ok (.getfield 20, 3) := by decide +kernel
theorem dX7_ofCell_4 : decode cX7_ofCell 4 = .ok (.iload_n 1, 1) := by decide +kernel
theorem dX7_ofCell_5 : decode cX7_ofCell 5 = .ok (.invokevirtual 96, 3) := by decide +kernel
theorem dX7_ofCell_8 : decode cX7_ofCell 8 = .ok (.ifCond .ne 5, 3) := by decide +kernel
theorem dX7_ofCell_11 : decode cX7_ofCell 11 = .ok (.iconst (-1), 1) := by decide +kernel
theorem dX7_ofCell_12 : decode cX7_ofCell 12 = .ok (.ireturn, 1) := by decide +kernel
theorem dX7_ofCell_13 : decode cX7_ofCell 13 = .ok (.iload_n 2, 1) := by decide +kernel
theorem dX7_ofCell_14 : decode cX7_ofCell 14 = .ok (.tableswitch 85 0 4 #[34, 43, 52, 61, 73], 34) := by decide +kernel
theorem dX7_ofCell_48 : decode cX7_ofCell 48 = .ok (.aload_n 0, 1) := by decide +kernel
theorem dX7_ofCell_49 : decode cX7_ofCell 49 = .ok (.getfield 20, 3) := by decide +kernel
theorem dX7_ofCell_52 : decode cX7_ofCell 52 = .ok (.iload_n 1, 1) := by decide +kernel
theorem dX7_ofCell_53 : decode cX7_ofCell 53 = .ok (.invokevirtual 99, 3) := by decide +kernel
theorem dX7_ofCell_56 : decode cX7_ofCell 56 = .ok (.ireturn, 1) := by decide +kernel
theorem dX7_ofCell_57 : decode cX7_ofCell 57 = .ok (.aload_n 0, 1) := by decide +kernel
theorem dX7_ofCell_58 : decode cX7_ofCell 58 = .ok (.getfield 20, 3) := by decide +kernel
theorem dX7_ofCell_61 : decode cX7_ofCell 61 = .ok (.iload_n 1, 1) := by decide +kernel
theorem dX7_ofCell_62 : decode cX7_ofCell 62 = .ok (.invokevirtual 102, 3) := by decide +kernel
theorem dX7_ofCell_65 : decode cX7_ofCell 65 = .ok (.ireturn, 1) := by decide +kernel
theorem dX7_ofCell_66 : decode cX7_ofCell 66 = .ok (.aload_n 0, 1) := by decide +kernel
theorem dX7_ofCell_67 : decode cX7_ofCell 67 = .ok (.getfield 20, 3) := by decide +kernel
theorem dX7_ofCell_70 : decode cX7_ofCell 70 = .ok (.iload_n 1, 1) := by decide +kernel
theorem dX7_ofCell_71 : decode cX7_ofCell 71 = .ok (.invokevirtual 105, 3) := by decide +kernel
theorem dX7_ofCell_74 : decode cX7_ofCell 74 = .ok (.ireturn, 1) := by decide +kernel
theorem dX7_ofCell_75 : decode cX7_ofCell 75 = .ok (.aload_n 0, 1) := by decide +kernel
theorem dX7_ofCell_76 : decode cX7_ofCell 76 = .ok (.getfield 20, 3) := by decide +kernel
theorem dX7_ofCell_79 : decode cX7_ofCell 79 = .ok (.iload_n 1, 1) := by decide +kernel
theorem dX7_ofCell_80 : decode cX7_ofCell 80 = .ok (.invokevirtual 108, 3) := by decide +kernel
theorem dX7_ofCell_83 : decode cX7_ofCell 83 = .ok (.invokestatic 111, 3) := by decide +kernel
theorem dX7_ofCell_86 : decode cX7_ofCell 86 = .ok (.ireturn, 1) := by decide +kernel
theorem dX7_ofCell_87 : decode cX7_ofCell 87 = .ok (.aload_n 0, 1) := by decide +kernel
theorem dX7_ofCell_88 : decode cX7_ofCell 88 = .ok (.getfield 20, 3) := by decide +kernel
theorem dX7_ofCell_91 : decode cX7_ofCell 91 = .ok (.iload_n 1, 1) := by decide +kernel
theorem dX7_ofCell_92 : decode cX7_ofCell 92 = .ok (.invokevirtual 115, 3) := by decide +kernel
theorem dX7_ofCell_95 : decode cX7_ofCell 95 = .ok (.invokestatic 111, 3) := by decide +kernel
theorem dX7_ofCell_98 : decode cX7_ofCell 98 = .ok (.ireturn, 1) := by decide +kernel
theorem dX7_ofCell_99 : decode cX7_ofCell 99 = .ok (.bipush (-2), 2) := by decide +kernel
theorem dX7_ofCell_101 : decode cX7_ofCell 101 = .ok (.ireturn, 1) := by decide +kernel
set_option maxRecDepth 20000 in
theorem ggX7_pace_X2_isNone : GoodIn wsX7_pace wsX2_isNone := goodIn_r _ [6, 7, 18, 19, 20, 21, 22, 23] (by decide +kernel) (by decide +kernel)
set_option maxRecDepth 20000 in
theorem gX7_pace_X2_isNone : GoodIn wsX7_pace (wsV RX7 118 RX2 yX2_isNone wsX2_isNone) := goodIn_app (goodIn_of _ (by decide +kernel)) ggX7_pace_X2_isNone
theorem dX7_pace_0 : decode cX7_pace 0 = .ok (.iload_n 1, 1) := by decide +kernel
theorem dX7_pace_1 : decode cX7_pace 1 = .ok (.ifCond .lt 8, 3) := by decide +kernel
theorem dX7_pace_4 : decode cX7_pace 4 = .ok (.iload_n 1, 1) := by decide +kernel
theorem dX7_pace_5 : decode cX7_pace 5 = .ok (.iconst 3, 1) := by decide +kernel
theorem dX7_pace_6 : decode cX7_pace 6 = .ok (.if_icmp .le 6, 3) := by decide +kernel
theorem dX7_pace_9 : decode cX7_pace 9 = .ok (.bipush (-2), 2) := by decide +kernel
theorem dX7_pace_11 : decode cX7_pace 11 = .ok (.ireturn, 1) := by decide +kernel
theorem dX7_pace_12 : decode cX7_pace 12 = .ok (.aload_n 0, 1) := by decide +kernel
theorem dX7_pace_13 : decode cX7_pace 13 = .ok (.getfield 20, 3) := by decide +kernel
theorem dX7_pace_16 : decode cX7_pace 16 = .ok (.invokevirtual 118, 3) := by decide +kernel
theorem dX7_pace_19 : decode cX7_pace 19 = .ok (.ifCond .eq 6, 3) := by decide +kernel
theorem dX7_pace_22 : decode cX7_pace 22 = .ok (.bipush (-3), 2) := by decide +kernel
theorem dX7_pace_24 : decode cX7_pace 24 = .ok (.ireturn, 1) := by decide +kernel
theorem dX7_pace_25 : decode cX7_pace 25 = .ok (.aload_n 0, 1) := by decide +kernel
theorem dX7_pace_26 : decode cX7_pace 26 = .ok (.getfield 20, 3) := by decide +kernel
theorem dX7_pace_29 : decode cX7_pace 29 = .ok (.getfield 122, 3) := by decide +kernel
theorem dX7_pace_32 : decode cX7_pace 32 = .ok (.istore_n 2, 1) := by decide +kernel
theorem dX7_pace_33 : decode cX7_pace 33 = .ok (.aload_n 0, 1) := by decide +kernel
theorem dX7_pace_34 : decode cX7_pace 34 = .ok (.getfield 20, 3) := by decide +kernel
theorem dX7_pace_37 : decode cX7_pace 37 = .ok (.iload_n 1, 1) := by decide +kernel
theorem dX7_pace_38 : decode cX7_pace 38 = .ok (.putfield 122, 3) := by decide +kernel
theorem dX7_pace_41 : decode cX7_pace 41 = .ok (.iload_n 2, 1) := by decide +kernel
theorem dX7_pace_42 : decode cX7_pace 42 = .ok (.ireturn, 1) := by decide +kernel
set_option maxRecDepth 20000 in
theorem ggX7_bridge_X2_has : GoodIn wsX7_bridge wsX2_has := goodIn_r _ [7, 8, 35, 36, 37, 38, 39, 40] (by decide +kernel) (by decide +kernel)
set_option maxRecDepth 20000 in
theorem gX7_bridge_X2_has : GoodIn wsX7_bridge (wsV RX7 96 RX2 yX2_has wsX2_has) := goodIn_app (goodIn_of _ (by decide +kernel)) ggX7_bridge_X2_has
set_option maxRecDepth 20000 in
theorem ggX7_bridge_X2_isBridged : GoodIn wsX7_bridge wsX2_isBridged := goodIn_r _ [12, 13, 14, 4, 5, 6, 7, 8, 35, 36, 37, 38, 39, 40] (by decide +kernel) (by decide +kernel)
set_option maxRecDepth 20000 in
theorem gX7_bridge_X2_isBridged : GoodIn wsX7_bridge (wsV RX7 115 RX2 yX2_isBridged wsX2_isBridged) := goodIn_app (goodIn_of _ (by decide +kernel)) ggX7_bridge_X2_isBridged
set_option maxRecDepth 20000 in
theorem ggX7_bridge_X2_setBridged : GoodIn wsX7_bridge wsX2_setBridged := goodIn_r _ [18, 13, 14, 4, 5, 6, 7, 8, 35, 36, 37, 38, 39, 40] (by decide +kernel) (by decide +kernel)
set_option maxRecDepth 20000 in
theorem gX7_bridge_X2_setBridged : GoodIn wsX7_bridge (wsV RX7 125 RX2 yX2_setBridged wsX2_setBridged) := goodIn_app (goodIn_of _ (by decide +kernel)) ggX7_bridge_X2_setBridged
set_option maxRecDepth 20000 in
theorem ggX7_bridge_X4_forget : GoodIn wsX7_bridge wsX4_forget := goodIn_r _ [23, 24, 41, 42] (by decide +kernel) (by decide +kernel)
set_option maxRecDepth 20000 in
theorem gX7_bridge_X4_forget : GoodIn wsX7_bridge (wsV RX7 129 RX4 yX4_forget wsX4_forget) := goodIn_app (goodIn_of _ (by decide +kernel)) ggX7_bridge_X4_forget
theorem dX7_bridge_0 : decode cX7_bridge 0 = .ok (.aload_n 0, 1) := by decide +kernel
theorem dX7_bridge_1 : decode cX7_bridge 1 = .ok (.getfield 20, 3) := by decide +kernel
theorem dX7_bridge_4 : decode cX7_bridge 4 = .ok (.iload_n 1, 1) := by decide +kernel
theorem dX7_bridge_5 : decode cX7_bridge 5 = .ok (.invokevirtual 96, 3) := by decide +kernel
theorem dX7_bridge_8 : decode cX7_bridge 8 = .ok (.ifCond .ne 5, 3) := by decide +kernel
theorem dX7_bridge_11 : decode cX7_bridge 11 = .ok (.iconst (-1), 1) := by decide +kernel
theorem dX7_bridge_12 : decode cX7_bridge 12 = .ok (.ireturn, 1) := by decide +kernel
theorem dX7_bridge_13 : decode cX7_bridge 13 = .ok (.aload_n 0, 1) := by decide +kernel
theorem dX7_bridge_14 : decode cX7_bridge 14 = .ok (.getfield 20, 3) := by decide +kernel
theorem dX7_bridge_17 : decode cX7_bridge 17 = .ok (.iload_n 1, 1) := by decide +kernel
theorem dX7_bridge_18 : decode cX7_bridge 18 = .ok (.invokevirtual 115, 3) := by decide +kernel
theorem dX7_bridge_21 : decode cX7_bridge 21 = .ok (.iload_n 2, 1) := by decide +kernel
theorem dX7_bridge_22 : decode cX7_bridge 22 = .ok (.if_icmp .ne 5, 3) := by decide +kernel
theorem dX7_bridge_25 : decode cX7_bridge 25 = .ok (.iconst 0, 1) := by decide +kernel
theorem dX7_bridge_26 : decode cX7_bridge 26 = .ok (.ireturn, 1) := by decide +kernel
theorem dX7_bridge_27 : decode cX7_bridge 27 = .ok (.aload_n 0, 1) := by decide +kernel
theorem dX7_bridge_28 : decode cX7_bridge 28 = .ok (.getfield 20, 3) := by decide +kernel
theorem dX7_bridge_31 : decode cX7_bridge 31 = .ok (.iload_n 1, 1) := by decide +kernel
theorem dX7_bridge_32 : decode cX7_bridge 32 = .ok (.iload_n 2, 1) := by decide +kernel
theorem dX7_bridge_33 : decode cX7_bridge 33 = .ok (.invokevirtual 125, 3) := by decide +kernel
theorem dX7_bridge_36 : decode cX7_bridge 36 = .ok (.aload_n 0, 1) := by decide +kernel
theorem dX7_bridge_37 : decode cX7_bridge 37 = .ok (.getfield 51, 3) := by decide +kernel
theorem dX7_bridge_40 : decode cX7_bridge 40 = .ok (.invokevirtual 129, 3) := by decide +kernel
theorem dX7_bridge_43 : decode cX7_bridge 43 = .ok (.iconst 1, 1) := by decide +kernel
theorem dX7_bridge_44 : decode cX7_bridge 44 = .ok (.ireturn, 1) := by decide +kernel
set_option maxRecDepth 20000 in
theorem ggX7_takeDraft_X4_forget : GoodIn wsX7_takeDraft wsX4_forget := goodIn_r _ [9, 10, 24, 25] (by decide +kernel) (by decide +kernel)
set_option maxRecDepth 20000 in
theorem gX7_takeDraft_X4_forget : GoodIn wsX7_takeDraft (wsV RX7 129 RX4 yX4_forget wsX4_forget) := goodIn_app (goodIn_of _ (by decide +kernel)) ggX7_takeDraft_X4_forget
theorem dX7_takeDraft_0 : decode cX7_takeDraft 0 = .ok (.aload_n 0, 1) := by decide +kernel
theorem dX7_takeDraft_1 : decode cX7_takeDraft 1 = .ok (.getfield 20, 3) := by decide +kernel
theorem dX7_takeDraft_4 : decode cX7_takeDraft 4 = .ok (.astore_n 1, 1) := by decide +kernel
theorem dX7_takeDraft_5 : decode cX7_takeDraft 5 = .ok (.aload_n 0, 1) := by decide +kernel
theorem dX7_takeDraft_6 : decode cX7_takeDraft 6 = .ok (.aload_n 0, 1) := by decide +kernel
theorem dX7_takeDraft_7 : decode cX7_takeDraft 7 = .ok (.getfield 24, 3) := by decide +kernel
theorem dX7_takeDraft_10 : decode cX7_takeDraft 10 = .ok (.putfield 20, 3) := by decide +kernel
theorem dX7_takeDraft_13 : decode cX7_takeDraft 13 = .ok (.aload_n 0, 1) := by decide +kernel
theorem dX7_takeDraft_14 : decode cX7_takeDraft 14 = .ok (.aload_n 1, 1) := by decide +kernel
theorem dX7_takeDraft_15 : decode cX7_takeDraft 15 = .ok (.putfield 24, 3) := by decide +kernel
theorem dX7_takeDraft_18 : decode cX7_takeDraft 18 = .ok (.aload_n 0, 1) := by decide +kernel
theorem dX7_takeDraft_19 : decode cX7_takeDraft 19 = .ok (.getfield 44, 3) := by decide +kernel
theorem dX7_takeDraft_22 : decode cX7_takeDraft 22 = .ok (.iconst 0, 1) := by decide +kernel
theorem dX7_takeDraft_23 : decode cX7_takeDraft 23 = .ok (.putfield 132, 3) := by decide +kernel
theorem dX7_takeDraft_26 : decode cX7_takeDraft 26 = .ok (.aload_n 0, 1) := by decide +kernel
theorem dX7_takeDraft_27 : decode cX7_takeDraft 27 = .ok (.getfield 51, 3) := by decide +kernel
theorem dX7_takeDraft_30 : decode cX7_takeDraft 30 = .ok (.invokevirtual 129, 3) := by decide +kernel
theorem dX7_takeDraft_33 : decode cX7_takeDraft 33 = .ok (.return_, 1) := by decide +kernel
set_option maxRecDepth 20000 in
theorem ggX7_plan_X7_travel : GoodIn wsX7_plan wsX7_travel := goodIn_r _ [6, 7, 8, 9, 10, 11, 5, 12, 13, 14, 15, 16, 17, 18, 19, 20, 21, 22, 23, 24, 25, 26, 1, 27, 28, 29, 30, 31, 32, 33, 34, 35, 36, 37, 38, 39, 40, 41, 42, 43, 44, 45, 46, 47, 48, 49, 50, 51, 52, 53, 54, 55, 56, 57, 58, 59, 60, 61, 62, 63, 64, 65, 66, 67, 68, 69, 70, 71, 72, 73, 74, 75, 76, 77, 78, 79, 80, 81, 82, 83, 84, 85, 86, 87, 88, 89, 90, 91, 92, 93, 94, 95, 96, 97, 98, 99, 100, 101, 102, 103, 104, 105, 106, 107, 108, 109, 110, 111, 114, 115, 116, 117, 118, 119, 120, 121, 122, 123, 129, 130, 131, 132, 133, 134, 135, 136, 137, 124, 125, 126, 127, 128] (by decide +kernel) (by decide +kernel)
set_option maxRecDepth 20000 in
theorem gX7_plan_X7_travel : GoodIn wsX7_plan (wsV RX7 133 RX7 yX7_travel wsX7_travel) := goodIn_app (goodIn_of _ (by decide +kernel)) ggX7_plan_X7_travel
set_option maxRecDepth 20000 in
theorem ggX7_plan_X7_cellOf : GoodIn wsX7_plan wsX7_cellOf := goodIn_r _ [87] (by decide +kernel) (by decide +kernel)
set_option maxRecDepth 20000 in
theorem gX7_plan_X7_cellOf : GoodIn wsX7_plan (va_wsS RX7 143 yX7_cellOf wsX7_cellOf) := goodIn_app (goodIn_of _ (by decide +kernel)) ggX7_plan_X7_cellOf
set_option maxRecDepth 20000 in
theorem ggX7_plan_X7_paceOf : GoodIn wsX7_plan wsX7_paceOf := goodIn_r _ [102] (by decide +kernel) (by decide +kernel)
set_option maxRecDepth 20000 in
theorem gX7_plan_X7_paceOf : GoodIn wsX7_plan (va_wsS RX7 146 yX7_paceOf wsX7_paceOf) := goodIn_app (goodIn_of _ (by decide +kernel)) ggX7_plan_X7_paceOf
theorem dX7_plan_0 : decode cX7_plan 0 = .ok (.aload_n 0, 1) := by decide +kernel
theorem dX7_plan_1 : decode cX7_plan 1 = .ok (.iload_n 1, 1) := by decide +kernel
theorem dX7_plan_2 : decode cX7_plan 2 = .ok (.iload_n 2, 1) := by decide +kernel
theorem dX7_plan_3 : decode cX7_plan 3 = .ok (.iload_n 3, 1) := by decide +kernel
theorem dX7_plan_4 : decode cX7_plan 4 = .ok (.iload 4, 2) := by decide +kernel
theorem dX7_plan_6 : decode cX7_plan 6 = .ok (.iload 5, 2) := by decide +kernel
theorem dX7_plan_8 : decode cX7_plan 8 = .ok (.ifCond .lt 13, 3) := by decide +kernel
theorem dX7_plan_11 : decode cX7_plan 11 = .ok (.iload 5, 2) := by decide +kernel
theorem dX7_plan_13 : decode cX7_plan 13 = .ok (.iconst 2, 1) := by decide +kernel
theorem dX7_plan_14 : decode cX7_plan 14 = .ok (.if_icmp .gt 7, 3) := by decide +kernel
theorem dX7_plan_17 : decode cX7_plan 17 = .ok (.iconst 1, 1) := by decide +kernel
theorem dX7_plan_18 : decode cX7_plan 18 = .ok (.goto 4, 3) := by decide +kernel
theorem dX7_plan_21 : decode cX7_plan 21 = .ok (.iconst 0, 1) := by decide +kernel
theorem dX7_plan_22 : decode cX7_plan 22 = .ok (.invokevirtual 133, 3) := by decide +kernel
theorem dX7_plan_25 : decode cX7_plan 25 = .ok (.istore 6, 2) := by decide +kernel
theorem dX7_plan_27 : decode cX7_plan 27 = .ok (.iload 6, 2) := by decide +kernel
theorem dX7_plan_29 : decode cX7_plan 29 = .ok (.ifCond .eq 6, 3) := by decide +kernel
theorem dX7_plan_32 : decode cX7_plan 32 = .ok (.iload 6, 2) := by decide +kernel
theorem dX7_plan_34 : decode cX7_plan 34 = .ok (.ireturn, 1) := by decide +kernel
theorem dX7_plan_35 : decode cX7_plan 35 = .ok (.iload 5, 2) := by decide +kernel
theorem dX7_plan_37 : decode cX7_plan 37 = .ok (.iconst 1, 1) := by decide +kernel
theorem dX7_plan_38 : decode cX7_plan 38 = .ok (.if_icmp .ne 11, 3) := by decide +kernel
theorem dX7_plan_41 : decode cX7_plan 41 = .ok (.aload_n 0, 1) := by decide +kernel
theorem dX7_plan_42 : decode cX7_plan 42 = .ok (.getfield 37, 3) := by decide +kernel
theorem dX7_plan_45 : decode cX7_plan 45 = .ok (.getfield 137, 3) := by decide +kernel
theorem dX7_plan_48 : decode cX7_plan 48 = .ok (.ireturn, 1) := by decide +kernel
theorem dX7_plan_49 : decode cX7_plan 49 = .ok (.aload_n 0, 1) := by decide +kernel
theorem dX7_plan_50 : decode cX7_plan 50 = .ok (.getfield 37, 3) := by decide +kernel
theorem dX7_plan_53 : decode cX7_plan 53 = .ok (.getfield 137, 3) := by decide +kernel
theorem dX7_plan_56 : decode cX7_plan 56 = .ok (.bipush (-9), 2) := by decide +kernel
theorem dX7_plan_58 : decode cX7_plan 58 = .ok (.if_icmp .eq 14, 3) := by decide +kernel
theorem dX7_plan_61 : decode cX7_plan 61 = .ok (.bipush (-100), 2) := by decide +kernel
theorem dX7_plan_63 : decode cX7_plan 63 = .ok (.aload_n 0, 1) := by decide +kernel
theorem dX7_plan_64 : decode cX7_plan 64 = .ok (.getfield 37, 3) := by decide +kernel
theorem dX7_plan_67 : decode cX7_plan 67 = .ok (.getfield 137, 3) := by decide +kernel
theorem dX7_plan_70 : decode cX7_plan 70 = .ok (.isub, 1) := by decide +kernel
theorem dX7_plan_71 : decode cX7_plan 71 = .ok (.ireturn, 1) := by decide +kernel
theorem dX7_plan_72 : decode cX7_plan 72 = .ok (.iload 5, 2) := by decide +kernel
theorem dX7_plan_74 : decode cX7_plan 74 = .ok (.ifCond .ne 16, 3) := by decide +kernel
theorem dX7_plan_77 : decode cX7_plan 77 = .ok (.aload_n 0, 1) := by decide +kernel
theorem dX7_plan_78 : decode cX7_plan 78 = .ok (.getfield 37, 3) := by decide +kernel
theorem dX7_plan_81 : decode cX7_plan 81 = .ok (.getfield 140, 3) := by decide +kernel
theorem dX7_plan_84 : decode cX7_plan 84 = .ok (.invokestatic 143, 3) := by decide +kernel
theorem dX7_plan_87 : decode cX7_plan 87 = .ok (.goto 13, 3) := by decide +kernel
theorem dX7_plan_90 : decode cX7_plan 90 = .ok (.aload_n 0, 1) := by decide +kernel
theorem dX7_plan_91 : decode cX7_plan 91 = .ok (.getfield 37, 3) := by decide +kernel
theorem dX7_plan_94 : decode cX7_plan 94 = .ok (.getfield 140, 3) := by decide +kernel
theorem dX7_plan_97 : decode cX7_plan 97 = .ok (.invokestatic 146, 3) := by decide +kernel
theorem dX7_plan_100 : decode cX7_plan 100 = .ok (.ireturn, 1) := by decide +kernel
set_option maxRecDepth 20000 in
theorem ggX7_dry_X7_isUpperOrLower : GoodIn wsX7_dry wsX7_isUpperOrLower := goodIn_r _ [7] (by decide +kernel) (by decide +kernel)
set_option maxRecDepth 20000 in
theorem gX7_dry_X7_isUpperOrLower : GoodIn wsX7_dry (va_wsS RX7 149 yX7_isUpperOrLower wsX7_isUpperOrLower) := goodIn_app (goodIn_of _ (by decide +kernel)) ggX7_dry_X7_isUpperOrLower
set_option maxRecDepth 20000 in
theorem ggX7_dry_X7_travel : GoodIn wsX7_dry wsX7_travel := goodIn_r _ [11, 12, 3, 13, 14, 15, 6, 16, 17, 18, 19, 20, 21, 22, 23, 24, 25, 26, 27, 28, 29, 30, 1, 31, 32, 33, 34, 35, 36, 37, 38, 39, 40, 41, 42, 43, 44, 45, 46, 47, 48, 49, 50, 51, 52, 53, 54, 55, 56, 57, 58, 59, 60, 61, 62, 63, 64, 65, 66, 67, 68, 69, 70, 71, 72, 73, 74, 75, 76, 77, 78, 79, 80, 81, 82, 83, 84, 85, 86, 87, 88, 89, 90, 91, 92, 93, 94, 95, 96, 97, 98, 99, 100, 101, 102, 103, 104, 105, 106, 107, 108, 109, 110, 111, 112, 113, 114, 115, 147, 148, 149, 150, 151, 152, 153, 154, 155, 156, 162, 163, 164, 165, 166, 167, 168, 169, 170, 157, 158, 159, 160, 161] (by decide +kernel) (by decide +kernel)
set_option maxRecDepth 20000 in
theorem gX7_dry_X7_travel : GoodIn wsX7_dry (wsV RX7 133 RX7 yX7_travel wsX7_travel) := goodIn_app (goodIn_of _ (by decide +kernel)) ggX7_dry_X7_travel
set_option maxRecDepth 20000 in
theorem ggX7_dry_X0_dryParts : GoodIn wsX7_dry wsX0_dryParts := goodIn_r _ [119, 62, 79, 63, 120, 121, 122, 24, 123, 124, 125, 126, 127, 128, 101, 102, 103, 104, 26, 129, 130, 131, 132, 133, 134, 135, 136, 137, 100, 89, 56, 57, 58, 138, 6, 139, 157, 158, 159, 160, 161, 162, 163, 164, 165, 166, 167] (by decide +kernel) (by decide +kernel)
set_option maxRecDepth 20000 in
theorem gX7_dry_X0_dryParts : GoodIn wsX7_dry (wsV RX7 154 RX0 yX0_dryParts wsX0_dryParts) := goodIn_app (goodIn_of _ (by decide +kernel)) ggX7_dry_X0_dryParts
set_option maxRecDepth 20000 in
theorem ggX7_dry_X7_tenTo : GoodIn wsX7_dry wsX7_tenTo := goodIn_r _ [142, 143] (by decide +kernel) (by decide +kernel)
set_option maxRecDepth 20000 in
theorem gX7_dry_X7_tenTo : GoodIn wsX7_dry (va_wsS RX7 158 yX7_tenTo wsX7_tenTo) := goodIn_app (goodIn_of _ (by decide +kernel)) ggX7_dry_X7_tenTo
set_option maxRecDepth 20000 in
theorem ggX7_dry_X7_inLeastTerms : GoodIn wsX7_dry wsX7_inLeastTerms := goodIn_r _ [146] (by decide +kernel) (by decide +kernel)
set_option maxRecDepth 20000 in
theorem gX7_dry_X7_inLeastTerms : GoodIn wsX7_dry (va_wsS RX7 162 yX7_inLeastTerms wsX7_inLeastTerms) := goodIn_app (goodIn_of _ (by decide +kernel)) ggX7_dry_X7_inLeastTerms
theorem dX7_dry_0 : decode cX7_dry 0 = .ok (.aload_n 0, 1) := by decide +kernel
theorem dX7_dry_1 : decode cX7_dry 1 = .ok (.iload_n 1, 1) := by decide +kernel
theorem dX7_dry_2 : decode cX7_dry 2 = .ok (.iload_n 2, 1) := by decide +kernel
theorem dX7_dry_3 : decode cX7_dry 3 = .ok (.iload_n 3, 1) := by decide +kernel
theorem dX7_dry_4 : decode cX7_dry 4 = .ok (.iload 4, 2) := by decide +kernel
theorem dX7_dry_6 : decode cX7_dry 6 = .ok (.iload 5, 2) := by decide +kernel
theorem dX7_dry_8 : decode cX7_dry 8 = .ok (.invokestatic 149, 3) := by decide +kernel
theorem dX7_dry_11 : decode cX7_dry 11 = .ok (.invokevirtual 133, 3) := by decide +kernel
theorem dX7_dry_14 : decode cX7_dry 14 = .ok (.istore 6, 2) := by decide +kernel
theorem dX7_dry_16 : decode cX7_dry 16 = .ok (.iload 6, 2) := by decide +kernel
theorem dX7_dry_18 : decode cX7_dry 18 = .ok (.ifCond .ne 15, 3) := by decide +kernel
theorem dX7_dry_21 : decode cX7_dry 21 = .ok (.aload_n 0, 1) := by decide +kernel
theorem dX7_dry_22 : decode cX7_dry 22 = .ok (.getfield 37, 3) := by decide +kernel
theorem dX7_dry_25 : decode cX7_dry 25 = .ok (.getfield 137, 3) := by decide +kernel
theorem dX7_dry_28 : decode cX7_dry 28 = .ok (.bipush (-9), 2) := by decide +kernel
theorem dX7_dry_30 : decode cX7_dry 30 = .ok (.if_icmp .eq 7, 3) := by decide +kernel
theorem dX7_dry_33 : decode cX7_dry 33 = .ok (.ldc2_w 152, 3) := by decide +kernel
theorem dX7_dry_36 : decode cX7_dry 36 = .ok (.lreturn, 1) := by decide +kernel
theorem dX7_dry_37 : decode cX7_dry 37 = .ok (.aload_n 0, 1) := by decide +kernel
theorem dX7_dry_38 : decode cX7_dry 38 = .ok (.getfield 37, 3) := by decide +kernel
theorem dX7_dry_41 : decode cX7_dry 41 = .ok (.aload_n 0, 1) := by decide +kernel
theorem dX7_dry_42 : decode cX7_dry 42 = .ok (.getfield 20, 3) := by decide +kernel
theorem dX7_dry_45 : decode cX7_dry 45 = .ok (.iconst (-1), 1) := by decide +kernel
theorem dX7_dry_46 : decode cX7_dry 46 = .ok (.iconst 0, 1) := by decide +kernel
theorem dX7_dry_47 : decode cX7_dry 47 = .ok (.invokevirtual 154, 3) := by decide +kernel
theorem dX7_dry_50 : decode cX7_dry 50 = .ok (.iload 4, 2) := by decide +kernel
theorem dX7_dry_52 : decode cX7_dry 52 = .ok (.invokestatic 158, 3) := by decide +kernel
theorem dX7_dry_55 : decode cX7_dry 55 = .ok (.iload 5, 2) := by decide +kernel
theorem dX7_dry_57 : decode cX7_dry 57 = .ok (.invokestatic 162, 3) := by decide +kernel
theorem dX7_dry_60 : decode cX7_dry 60 = .ok (.lreturn, 1) := by decide +kernel
set_option maxRecDepth 20000 in
theorem ggX7_travel_X7_rowOf : GoodIn wsX7_travel wsX7_rowOf := goodIn_r _ [7, 8, 108, 109, 110, 111, 112, 113, 114, 115, 116, 117] (by decide +kernel) (by decide +kernel)
set_option maxRecDepth 20000 in
theorem gX7_travel_X7_rowOf : GoodIn wsX7_travel (wsV RX7 67 RX7 yX7_rowOf wsX7_rowOf) := goodIn_app (goodIn_of _ (by decide +kernel)) ggX7_travel_X7_rowOf
set_option maxRecDepth 20000 in
theorem ggX7_travel_X7_isLane : GoodIn wsX7_travel wsX7_isLane := goodIn_r _ [11] (by decide +kernel) (by decide +kernel)
set_option maxRecDepth 20000 in
theorem gX7_travel_X7_isLane : GoodIn wsX7_travel (va_wsS RX7 71 yX7_isLane wsX7_isLane) := goodIn_app (goodIn_of _ (by decide +kernel)) ggX7_travel_X7_isLane
set_option maxRecDepth 20000 in
theorem ggX7_travel_X2_isNone : GoodIn wsX7_travel wsX2_isNone := goodIn_r _ [16, 17, 118, 119, 120, 121, 122, 123] (by decide +kernel) (by decide +kernel)
set_option maxRecDepth 20000 in
theorem gX7_travel_X2_isNone : GoodIn wsX7_travel (wsV RX7 118 RX2 yX2_isNone wsX2_isNone) := goodIn_app (goodIn_of _ (by decide +kernel)) ggX7_travel_X2_isNone
set_option maxRecDepth 20000 in
theorem ggX7_travel_X7_carryOut : GoodIn wsX7_travel wsX7_carryOut := goodIn_r _ [21, 22, 2, 23, 24, 25, 26, 27, 28, 29, 30, 31, 32, 33, 34, 35, 6, 36, 1, 37, 38, 39, 40, 41, 42, 43, 44, 45, 46, 47, 48, 49, 50, 51, 52, 53, 54, 55, 56, 57, 58, 59, 60, 61, 62, 63, 64, 65, 66, 67, 68, 69, 70, 71, 72, 73, 74, 15, 75, 76, 77, 78, 79, 80, 81, 82, 83, 84, 85, 86, 87, 17, 88, 89, 90, 91, 92, 93, 94, 95, 96, 97, 98, 99, 100, 101, 102, 103, 104, 105, 106, 107, 108, 109, 110, 111, 112, 113, 114, 115, 116, 117, 124, 125, 126, 127, 128, 129, 130, 131, 118, 119, 120, 121, 122, 123] (by decide +kernel) (by decide +kernel)
set_option maxRecDepth 20000 in
theorem gX7_travel_X7_carryOut : GoodIn wsX7_travel (wsV RX7 166 RX7 yX7_carryOut wsX7_carryOut) := goodIn_app (goodIn_of _ (by decide +kernel)) ggX7_travel_X7_carryOut
theorem dX7_travel_0 : decode cX7_travel 0 = .ok (.aload_n 0, 1) := by decide +kernel
theorem dX7_travel_1 : decode cX7_travel 1 = .ok (.iconst 0, 1) := by decide +kernel
theorem dX7_travel_2 : decode cX7_travel 2 = .ok (.putfield 63, 3) := by decide +kernel
theorem dX7_travel_5 : decode cX7_travel 5 = .ok (.aload_n 0, 1) := by decide +kernel
theorem dX7_travel_6 : decode cX7_travel 6 = .ok (.iload_n 1, 1) := by decide +kernel
theorem dX7_travel_7 : decode cX7_travel 7 = .ok (.invokevirtual 67, 3) := by decide +kernel
theorem dX7_travel_10 : decode cX7_travel 10 = .ok (.astore 6, 2) := by decide +kernel
theorem dX7_travel_12 : decode cX7_travel 12 = .ok (.aload 6, 2) := by decide +kernel
theorem dX7_travel_14 : decode cX7_travel 14 = .ok (.ifnonnull 5, 3) := by decide +kernel
theorem dX7_travel_17 : decode cX7_travel 17 = .ok (.iconst (-1), 1) := by decide +kernel
theorem dX7_travel_18 : decode cX7_travel 18 = .ok (.ireturn, 1) := by decide +kernel
theorem dX7_travel_19 : decode cX7_travel 19 = .ok (.iload_n 2, 1) := by decide +kernel
theorem dX7_travel_20 : decode cX7_travel 20 = .ok (.invokestatic 71, 3) := by decide +kernel
theorem dX7_travel_23 : decode cX7_travel 23 = .ok (.ifCond .eq 20, 3) := by decide +kernel
theorem dX7_travel_26 : decode cX7_travel 26 = .ok (.iload 4, 2) := by decide +kernel
theorem dX7_travel_28 : decode cX7_travel 28 = .ok (.ifCond .lt 15, 3) := by decide +kernel
theorem dX7_travel_31 : decode cX7_travel 31 = .ok (.iload 4, 2) := by decide +kernel
theorem dX7_travel_33 : decode cX7_travel 33 = .ok (.bipush 18, 2) := by decide +kernel
theorem dX7_travel_35 : decode cX7_travel 35 = .ok (.if_icmp .gt 8, 3) := by decide +kernel
theorem dX7_travel_38 : decode cX7_travel 38 = .ok (.iload 5, 2) := by decide +kernel
theorem dX7_travel_40 : decode cX7_travel 40 = .ok (.ifCond .ne 6, 3) := by decide +kernel
theorem dX7_travel_43 : decode cX7_travel 43 = .ok (.bipush (-2), 2) := by decide +kernel
theorem dX7_travel_45 : decode cX7_travel 45 = .ok (.ireturn, 1) := by decide +kernel
theorem dX7_travel_46 : decode cX7_travel 46 = .ok (.aload_n 0, 1) := by decide +kernel
theorem dX7_travel_47 : decode cX7_travel 47 = .ok (.getfield 20, 3) := by decide +kernel
theorem dX7_travel_50 : decode cX7_travel 50 = .ok (.invokevirtual 118, 3) := by decide +kernel
theorem dX7_travel_53 : decode cX7_travel 53 = .ok (.ifCond .eq 6, 3) := by decide +kernel
theorem dX7_travel_56 : decode cX7_travel 56 = .ok (.bipush (-3), 2) := by decide +kernel
theorem dX7_travel_58 : decode cX7_travel 58 = .ok (.ireturn, 1) := by decide +kernel
theorem dX7_travel_59 : decode cX7_travel 59 = .ok (.aload_n 0, 1) := by decide +kernel
theorem dX7_travel_60 : decode cX7_travel 60 = .ok (.aload 6, 2) := by decide +kernel
theorem dX7_travel_62 : decode cX7_travel 62 = .ok (.iload_n 2, 1) := by decide +kernel
theorem dX7_travel_63 : decode cX7_travel 63 = .ok (.iload_n 3, 1) := by decide +kernel
theorem dX7_travel_64 : decode cX7_travel 64 = .ok (.iload 4, 2) := by decide +kernel
theorem dX7_travel_66 : decode cX7_travel 66 = .ok (.invokevirtual 166, 3) := by decide +kernel
theorem dX7_travel_69 : decode cX7_travel 69 = .ok (.ireturn, 1) := by decide +kernel
set_option maxRecDepth 20000 in
theorem ggX7_carryOut_X3_faultAs : GoodIn wsX7_carryOut wsX3_faultAs := goodIn_r _ [7, 8, 9, 10, 11, 6, 12, 102, 103, 104] (by decide +kernel) (by decide +kernel)
set_option maxRecDepth 20000 in
theorem gX7_carryOut_X3_faultAs : GoodIn wsX7_carryOut (wsV RX7 75 RX3 yX3_faultAs wsX3_faultAs) := goodIn_app (goodIn_of _ (by decide +kernel)) ggX7_carryOut_X3_faultAs
set_option maxRecDepth 20000 in
theorem ggX7_carryOut_X7_failed : GoodIn wsX7_carryOut wsX7_failed := goodIn_r _ [17, 18, 92, 93, 94, 95, 96, 97, 98, 99, 100, 101] (by decide +kernel) (by decide +kernel)
set_option maxRecDepth 20000 in
theorem gX7_carryOut_X7_failed : GoodIn wsX7_carryOut (wsV RX7 79 RX7 yX7_failed wsX7_failed) := goodIn_app (goodIn_of _ (by decide +kernel)) ggX7_carryOut_X7_failed
set_option maxRecDepth 20000 in
theorem ggX7_carryOut_X3_hasStretch : GoodIn wsX7_carryOut wsX3_hasStretch := goodIn_r _ [22, 23, 102, 103, 104] (by decide +kernel) (by decide +kernel)
set_option maxRecDepth 20000 in
theorem gX7_carryOut_X3_hasStretch : GoodIn wsX7_carryOut (wsV RX7 82 RX3 yX3_hasStretch wsX3_hasStretch) := goodIn_app (goodIn_of _ (by decide +kernel)) ggX7_carryOut_X3_hasStretch
set_option maxRecDepth 20000 in
theorem ggX7_carryOut_X0_readActs : GoodIn wsX7_carryOut wsX0_readActs := goodIn_r _ [28, 29, 30, 31, 32, 33, 34, 35, 36, 37, 38, 39, 40, 6, 41, 42, 43, 44, 45, 46, 23, 105, 106, 107, 108, 109, 102, 103, 104] (by decide +kernel) (by decide +kernel)
set_option maxRecDepth 20000 in
theorem gX7_carryOut_X0_readActs : GoodIn wsX7_carryOut (wsV RX7 170 RX0 yX0_readActs wsX0_readActs) := goodIn_app (goodIn_of _ (by decide +kernel)) ggX7_carryOut_X0_readActs
set_option maxRecDepth 20000 in
theorem ggX7_carryOut_X0_go : GoodIn wsX7_carryOut wsX0_go := goodIn_r _ [50, 51, 52, 36, 37, 53, 54, 55, 56, 57, 58, 59, 60, 61, 62, 63, 64, 30, 31, 32, 65, 16, 66, 67, 68, 69, 70, 71, 72, 73, 74, 75, 76, 77, 78, 79, 80, 81, 82, 83, 84, 85, 86, 34, 35, 87, 88, 89, 90, 91, 105, 106, 107, 108, 109, 110, 111, 112, 113, 114, 115] (by decide +kernel) (by decide +kernel)
set_option maxRecDepth 20000 in
theorem gX7_carryOut_X0_go : GoodIn wsX7_carryOut (wsV RX7 174 RX0 yX0_go wsX0_go) := goodIn_app (goodIn_of _ (by decide +kernel)) ggX7_carryOut_X0_go
theorem dX7_carryOut_0 : decode cX7_carryOut 0 = .ok (.aload_n 1, 1) := by decide +kernel
theorem dX7_carryOut_1 : decode cX7_carryOut 1 = .ok (.iload_n 2, 1) := by decide +kernel
theorem dX7_carryOut_2 : decode cX7_carryOut 2 = .ok (.invokevirtual 75, 3) := by decide +kernel
theorem dX7_carryOut_5 : decode cX7_carryOut 5 = .ok (.istore 5, 2) := by decide +kernel
theorem dX7_carryOut_7 : decode cX7_carryOut 7 = .ok (.iload 5, 2) := by decide +kernel
theorem dX7_carryOut_9 : decode cX7_carryOut 9 = .ok (.ifCond .eq 10, 3) := by decide +kernel
theorem dX7_carryOut_12 : decode cX7_carryOut 12 = .ok (.aload_n 0, 1) := by decide +kernel
theorem dX7_carryOut_13 : decode cX7_carryOut 13 = .ok (.iload 5, 2) := by decide +kernel
theorem dX7_carryOut_15 : decode cX7_carryOut 15 = .ok (.invokevirtual 79, 3) := by decide +kernel
theorem dX7_carryOut_18 : decode cX7_carryOut 18 = .ok (.ireturn, 1) := by decide +kernel
theorem dX7_carryOut_19 : decode cX7_carryOut 19 = .ok (.aload_n 1, 1) := by decide +kernel
theorem dX7_carryOut_20 : decode cX7_carryOut 20 = .ok (.iload_n 3, 1) := by decide +kernel
theorem dX7_carryOut_21 : decode cX7_carryOut 21 = .ok (.iload 4, 2) := by decide +kernel
theorem dX7_carryOut_23 : decode cX7_carryOut 23 = .ok (.invokevirtual 82, 3) := by decide +kernel
theorem dX7_carryOut_26 : decode cX7_carryOut 26 = .ok (.ifCond .ne 9, 3) := by decide +kernel
theorem dX7_carryOut_29 : decode cX7_carryOut 29 = .ok (.aload_n 0, 1) := by decide +kernel
theorem dX7_carryOut_30 : decode cX7_carryOut 30 = .ok (.iconst 3, 1) := by decide +kernel
theorem dX7_carryOut_31 : decode cX7_carryOut 31 = .ok (.invokevirtual 79, 3) := by decide +kernel
theorem dX7_carryOut_34 : decode cX7_carryOut 34 = .ok (.ireturn, 1) := by decide +kernel
theorem dX7_carryOut_35 : decode cX7_carryOut 35 = .ok (.aload_n 0, 1) := by decide +kernel
theorem dX7_carryOut_36 : decode cX7_carryOut 36 = .ok (.getfield 37, 3) := by decide +kernel
theorem dX7_carryOut_39 : decode cX7_carryOut 39 = .ok (.aload_n 1, 1) := by decide +kernel
theorem dX7_carryOut_40 : decode cX7_carryOut 40 = .ok (.iload_n 3, 1) := by decide +kernel
theorem dX7_carryOut_41 : decode cX7_carryOut 41 = .ok (.iload 4, 2) := by decide +kernel
theorem dX7_carryOut_43 : decode cX7_carryOut 43 = .ok (.invokevirtual 170, 3) := by decide +kernel
theorem dX7_carryOut_46 : decode cX7_carryOut 46 = .ok (.ifCond .ne 6, 3) := by decide +kernel
theorem dX7_carryOut_49 : decode cX7_carryOut 49 = .ok (.bipush (-2), 2) := by decide +kernel
theorem dX7_carryOut_51 : decode cX7_carryOut 51 = .ok (.ireturn, 1) := by decide +kernel
theorem dX7_carryOut_52 : decode cX7_carryOut 52 = .ok (.aload_n 0, 1) := by decide +kernel
theorem dX7_carryOut_53 : decode cX7_carryOut 53 = .ok (.getfield 37, 3) := by decide +kernel
theorem dX7_carryOut_56 : decode cX7_carryOut 56 = .ok (.aload_n 0, 1) := by decide +kernel
theorem dX7_carryOut_57 : decode cX7_carryOut 57 = .ok (.getfield 20, 3) := by decide +kernel
theorem dX7_carryOut_60 : decode cX7_carryOut 60 = .ok (.invokevirtual 174, 3) := by decide +kernel
theorem dX7_carryOut_63 : decode cX7_carryOut 63 = .ok (.iconst 0, 1) := by decide +kernel
theorem dX7_carryOut_64 : decode cX7_carryOut 64 = .ok (.ireturn, 1) := by decide +kernel
set_option maxRecDepth 20000 in
theorem ggX7_soonest_X2_isNone : GoodIn wsX7_soonest wsX2_isNone := goodIn_r _ [6, 7, 77, 78, 79, 80, 81, 82] (by decide +kernel) (by decide +kernel)
set_option maxRecDepth 20000 in
theorem gX7_soonest_X2_isNone : GoodIn wsX7_soonest (wsV RX7 118 RX2 yX2_isNone wsX2_isNone) := goodIn_app (goodIn_of _ (by decide +kernel)) ggX7_soonest_X2_isNone
set_option maxRecDepth 20000 in
theorem ggX7_soonest_X2_fewestTurns : GoodIn wsX7_soonest wsX2_fewestTurns := goodIn_r _ [11, 12, 13, 14, 15, 5, 16, 17, 18, 19, 20, 21, 7, 22, 23, 24, 25, 26, 27, 28, 29, 30, 31, 32, 33, 34, 35, 36, 37, 38, 39, 40, 41, 42, 43, 44, 45, 46, 47, 48, 49, 50, 51, 52, 53, 54, 55, 56, 57, 58, 59, 60, 61, 62, 63, 64, 65, 66, 77, 78, 79, 80, 81, 82] (by decide +kernel) (by decide +kernel)
set_option maxRecDepth 20000 in
theorem gX7_soonest_X2_fewestTurns : GoodIn wsX7_soonest (wsV RX7 178 RX2 yX2_fewestTurns wsX2_fewestTurns) := goodIn_app (goodIn_of _ (by decide +kernel)) ggX7_soonest_X2_fewestTurns
theorem dX7_soonest_0 : decode cX7_soonest 0 = .ok (.aload_n 0, 1) := by decide +kernel
theorem dX7_soonest_1 : decode cX7_soonest 1 = .ok (.getfield 20, 3) := by decide +kernel
theorem dX7_soonest_4 : decode cX7_soonest 4 = .ok (.invokevirtual 118, 3) := by decide +kernel
theorem dX7_soonest_7 : decode cX7_soonest 7 = .ok (.ifCond .eq 6, 3) := by decide +kernel
theorem dX7_soonest_10 : decode cX7_soonest 10 = .ok (.bipush (-3), 2) := by decide +kernel
theorem dX7_soonest_12 : decode cX7_soonest 12 = .ok (.ireturn, 1) := by decide +kernel
theorem dX7_soonest_13 : decode cX7_soonest 13 = .ok (.aload_n 0, 1) := by decide +kernel
theorem dX7_soonest_14 : decode cX7_soonest 14 = .ok (.getfield 20, 3) := by decide +kernel
theorem dX7_soonest_17 : decode cX7_soonest 17 = .ok (.invokevirtual 178, 3) := by decide +kernel
theorem dX7_soonest_20 : decode cX7_soonest 20 = .ok (.ireturn, 1) := by decide +kernel
set_option maxRecDepth 20000 in
theorem ggX7_surest_X2_isNone : GoodIn wsX7_surest wsX2_isNone := goodIn_r _ [7, 8, 130, 131, 132, 133, 134, 135] (by decide +kernel) (by decide +kernel)
set_option maxRecDepth 20000 in
theorem gX7_surest_X2_isNone : GoodIn wsX7_surest (wsV RX7 118 RX2 yX2_isNone wsX2_isNone) := goodIn_app (goodIn_of _ (by decide +kernel)) ggX7_surest_X2_isNone
set_option maxRecDepth 20000 in
theorem ggX7_surest_X4_fill : GoodIn wsX7_surest wsX4_fill := goodIn_r _ [13, 14, 15, 16, 17, 18, 19, 20, 21, 22, 6, 23, 8, 24, 25, 26, 27, 28, 29, 30, 31, 32, 33, 34, 35, 36, 37, 12, 38, 39, 40, 41, 42, 43, 44, 45, 46, 47, 48, 49, 50, 51, 52, 53, 54, 55, 56, 57, 58, 59, 60, 61, 62, 63, 64, 65, 66, 67, 68, 69, 70, 71, 72, 73, 74, 75, 76, 77, 78, 79, 80, 81, 82, 83, 84, 85, 86, 87, 88, 89, 90, 91, 92, 93, 94, 95, 96, 97, 98, 99, 136, 137, 130, 131, 132, 133, 134, 135] (by decide +kernel) (by decide +kernel)
set_option maxRecDepth 20000 in
theorem gX7_surest_X4_fill : GoodIn wsX7_surest (wsV RX7 182 RX4 yX4_fill wsX4_fill) := goodIn_app (goodIn_of _ (by decide +kernel)) ggX7_surest_X4_fill
set_option maxRecDepth 20000 in
theorem ggX7_surest_X4_surestTurns : GoodIn wsX7_surest wsX4_surestTurns := goodIn_r _ [103, 104, 105, 106, 6, 107, 108, 96, 97, 98, 12, 99, 15, 109, 29, 110, 111, 130, 131, 132, 133, 134, 135, 136, 137] (by decide +kernel) (by decide +kernel)
set_option maxRecDepth 20000 in
theorem gX7_surest_X4_surestTurns : GoodIn wsX7_surest (wsV RX7 185 RX4 yX4_surestTurns wsX4_surestTurns) := goodIn_app (goodIn_of _ (by decide +kernel)) ggX7_surest_X4_surestTurns
set_option maxRecDepth 20000 in
theorem ggX7_surest_X4_actOf : GoodIn wsX7_surest wsX4_actOf := goodIn_r _ [115, 104, 105, 106, 6, 107, 108, 116, 117, 118, 12, 119, 96, 97, 98, 99, 15, 43, 44, 45, 46, 47, 48, 49, 50, 51, 52, 41, 53, 28, 29, 30, 31, 32, 33, 34, 8, 54, 55, 56, 57, 58, 59, 60, 61, 62, 63, 64, 65, 66, 67, 68, 69, 70, 71, 72, 73, 74, 75, 76, 77, 78, 79, 80, 81, 82, 83, 84, 85, 86, 87, 88, 89, 90, 91, 92, 93, 94, 95, 130, 131, 132, 133, 134, 135, 136, 137] (by decide +kernel) (by decide +kernel)
set_option maxRecDepth 20000 in
theorem gX7_surest_X4_actOf : GoodIn wsX7_surest (wsV RX7 189 RX4 yX4_actOf wsX4_actOf) := goodIn_app (goodIn_of _ (by decide +kernel)) ggX7_surest_X4_actOf
theorem dX7_surest_0 : decode cX7_surest 0 = .ok (.iload_n 1, 1) := by decide +kernel
theorem dX7_surest_1 : decode cX7_surest 1 = .ok (.iconst 1, 1) := by decide +kernel
theorem dX7_surest_2 : decode cX7_surest 2 = .ok (.if_icmp .lt 20, 3) := by decide +kernel
theorem dX7_surest_5 : decode cX7_surest 5 = .ok (.iload_n 1, 1) := by decide +kernel
theorem dX7_surest_6 : decode cX7_surest 6 = .ok (.bipush 12, 2) := by decide +kernel
theorem dX7_surest_8 : decode cX7_surest 8 = .ok (.if_icmp .gt 14, 3) := by decide +kernel
theorem dX7_surest_11 : decode cX7_surest 11 = .ok (.iload_n 2, 1) := by decide +kernel
theorem dX7_surest_12 : decode cX7_surest 12 = .ok (.iconst (-1), 1) := by decide +kernel
theorem dX7_surest_13 : decode cX7_surest 13 = .ok (.if_icmp .lt 9, 3) := by decide +kernel
theorem dX7_surest_16 : decode cX7_surest 16 = .ok (.iload_n 2, 1) := by decide +kernel
theorem dX7_surest_17 : decode cX7_surest 17 = .ok (.bipush 12, 2) := by decide +kernel
theorem dX7_surest_19 : decode cX7_surest 19 = .ok (.if_icmp .lt 6, 3) := by decide +kernel
theorem dX7_surest_22 : decode cX7_surest 22 = .ok (.bipush (-2), 2) := by decide +kernel
theorem dX7_surest_24 : decode cX7_surest 24 = .ok (.ireturn, 1) := by decide +kernel
theorem dX7_surest_25 : decode cX7_surest 25 = .ok (.aload_n 0, 1) := by decide +kernel
theorem dX7_surest_26 : decode cX7_surest 26 = .ok (.getfield 20, 3) := by decide +kernel
theorem dX7_surest_29 : decode cX7_surest 29 = .ok (.invokevirtual 118, 3) := by decide +kernel
theorem dX7_surest_32 : decode cX7_surest 32 = .ok (.ifCond .eq 6, 3) := by decide +kernel
theorem dX7_surest_35 : decode cX7_surest 35 = .ok (.bipush (-3), 2) := by decide +kernel
theorem dX7_surest_37 : decode cX7_surest 37 = .ok (.ireturn, 1) := by decide +kernel
theorem dX7_surest_38 : decode cX7_surest 38 = .ok (.aload_n 0, 1) := by decide +kernel
theorem dX7_surest_39 : decode cX7_surest 39 = .ok (.getfield 51, 3) := by decide +kernel
theorem dX7_surest_42 : decode cX7_surest 42 = .ok (.aload_n 0, 1) := by decide +kernel
theorem dX7_surest_43 : decode cX7_surest 43 = .ok (.getfield 20, 3) := by decide +kernel
theorem dX7_surest_46 : decode cX7_surest 46 = .ok (.invokevirtual 182, 3) := by decide +kernel
theorem dX7_surest_49 : decode cX7_surest 49 = .ok (.aload_n 0, 1) := by decide +kernel
theorem dX7_surest_50 : decode cX7_surest 50 = .ok (.getfield 51, 3) := by decide +kernel
theorem dX7_surest_53 : decode cX7_surest 53 = .ok (.aload_n 0, 1) := by decide +kernel
theorem dX7_surest_54 : decode cX7_surest 54 = .ok (.getfield 20, 3) := by decide +kernel
theorem dX7_surest_57 : decode cX7_surest 57 = .ok (.iload_n 1, 1) := by decide +kernel
theorem dX7_surest_58 : decode cX7_surest 58 = .ok (.invokevirtual 185, 3) := by decide +kernel
theorem dX7_surest_61 : decode cX7_surest 61 = .ok (.istore_n 3, 1) := by decide +kernel
theorem dX7_surest_62 : decode cX7_surest 62 = .ok (.iload_n 3, 1) := by decide +kernel
theorem dX7_surest_63 : decode cX7_surest 63 = .ok (.ifCond .ne 6, 3) := by decide +kernel
theorem dX7_surest_66 : decode cX7_surest 66 = .ok (.bipush (-9), 2) := by decide +kernel
theorem dX7_surest_68 : decode cX7_surest 68 = .ok (.ireturn, 1) := by decide +kernel
theorem dX7_surest_69 : decode cX7_surest 69 = .ok (.iload_n 2, 1) := by decide +kernel
theorem dX7_surest_70 : decode cX7_surest 70 = .ok (.iconst (-1), 1) := by decide +kernel
theorem dX7_surest_71 : decode cX7_surest 71 = .ok (.if_icmp .ne 7, 3) := by decide +kernel
theorem dX7_surest_74 : decode cX7_surest 74 = .ok (.iload_n 3, 1) := by decide +kernel
theorem dX7_surest_75 : decode cX7_surest 75 = .ok (.goto 16, 3) := by decide +kernel
theorem dX7_surest_78 : decode cX7_surest 78 = .ok (.aload_n 0, 1) := by decide +kernel
theorem dX7_surest_79 : decode cX7_surest 79 = .ok (.getfield 51, 3) := by decide +kernel
theorem dX7_surest_82 : decode cX7_surest 82 = .ok (.aload_n 0, 1) := by decide +kernel
theorem dX7_surest_83 : decode cX7_surest 83 = .ok (.getfield 20, 3) := by decide +kernel
theorem dX7_surest_86 : decode cX7_surest 86 = .ok (.iload_n 3, 1) := by decide +kernel
theorem dX7_surest_87 : decode cX7_surest 87 = .ok (.iload_n 2, 1) := by decide +kernel
theorem dX7_surest_88 : decode cX7_surest 88 = .ok (.invokevirtual 189, 3) := by decide +kernel
theorem dX7_surest_91 : decode cX7_surest 91 = .ok (.ireturn, 1) := by decide +kernel
set_option maxRecDepth 20000 in
theorem ggX7_sure_X7_isUpperOrLower : GoodIn wsX7_sure wsX7_isUpperOrLower := goodIn_r _ [7] (by decide +kernel) (by decide +kernel)
set_option maxRecDepth 20000 in
theorem gX7_sure_X7_isUpperOrLower : GoodIn wsX7_sure (va_wsS RX7 149 yX7_isUpperOrLower wsX7_isUpperOrLower) := goodIn_app (goodIn_of _ (by decide +kernel)) ggX7_sure_X7_isUpperOrLower
set_option maxRecDepth 20000 in
theorem ggX7_sure_X2_isNone : GoodIn wsX7_sure wsX2_isNone := goodIn_r _ [12, 13, 132, 133, 134, 135, 136, 137] (by decide +kernel) (by decide +kernel)
set_option maxRecDepth 20000 in
theorem gX7_sure_X2_isNone : GoodIn wsX7_sure (wsV RX7 118 RX2 yX2_isNone wsX2_isNone) := goodIn_app (goodIn_of _ (by decide +kernel)) ggX7_sure_X2_isNone
set_option maxRecDepth 20000 in
theorem ggX7_sure_X4_fill : GoodIn wsX7_sure wsX4_fill := goodIn_r _ [18, 19, 20, 21, 22, 23, 24, 25, 26, 27, 11, 28, 13, 29, 30, 31, 32, 33, 6, 34, 35, 36, 37, 38, 39, 40, 41, 17, 42, 43, 44, 45, 46, 47, 48, 49, 50, 51, 52, 53, 54, 55, 56, 57, 58, 59, 60, 61, 62, 63, 64, 65, 66, 67, 68, 69, 70, 71, 72, 73, 74, 75, 76, 77, 78, 79, 80, 81, 82, 83, 84, 85, 86, 87, 88, 89, 90, 91, 92, 93, 94, 95, 96, 97, 98, 99, 100, 101, 102, 103, 138, 139, 132, 133, 134, 135, 136, 137] (by decide +kernel) (by decide +kernel)
set_option maxRecDepth 20000 in
theorem gX7_sure_X4_fill : GoodIn wsX7_sure (wsV RX7 182 RX4 yX4_fill wsX4_fill) := goodIn_app (goodIn_of _ (by decide +kernel)) ggX7_sure_X4_fill
set_option maxRecDepth 20000 in
theorem ggX7_sure_X4_surestTurns : GoodIn wsX7_sure wsX4_surestTurns := goodIn_r _ [107, 108, 109, 110, 11, 111, 112, 100, 101, 102, 17, 103, 20, 113, 6, 114, 115, 132, 133, 134, 135, 136, 137, 138, 139] (by decide +kernel) (by decide +kernel)
set_option maxRecDepth 20000 in
theorem gX7_sure_X4_surestTurns : GoodIn wsX7_sure (wsV RX7 185 RX4 yX4_surestTurns wsX4_surestTurns) := goodIn_app (goodIn_of _ (by decide +kernel)) ggX7_sure_X4_surestTurns
set_option maxRecDepth 20000 in
theorem ggX7_sure_X7_inLeastTerms : GoodIn wsX7_sure wsX7_inLeastTerms := goodIn_r _ [118] (by decide +kernel) (by decide +kernel)
set_option maxRecDepth 20000 in
theorem gX7_sure_X7_inLeastTerms : GoodIn wsX7_sure (va_wsS RX7 162 yX7_inLeastTerms wsX7_inLeastTerms) := goodIn_app (goodIn_of _ (by decide +kernel)) ggX7_sure_X7_inLeastTerms
set_option maxRecDepth 20000 in
theorem ggX7_sure_X2_start : GoodIn wsX7_sure wsX2_start := goodIn_r _ [111, 112, 132, 133, 134, 135, 136, 137] (by decide +kernel) (by decide +kernel)
set_option maxRecDepth 20000 in
theorem gX7_sure_X2_start : GoodIn wsX7_sure (wsV RX7 193 RX2 yX2_start wsX2_start) := goodIn_app (goodIn_of _ (by decide +kernel)) ggX7_sure_X2_start
set_option maxRecDepth 20000 in
theorem ggX7_sure_X4_bestOf : GoodIn wsX7_sure wsX4_bestOf := goodIn_r _ [103, 20, 138, 139] (by decide +kernel) (by decide +kernel)
set_option maxRecDepth 20000 in
theorem gX7_sure_X4_bestOf : GoodIn wsX7_sure (wsV RX7 196 RX4 yX4_bestOf wsX4_bestOf) := goodIn_app (goodIn_of _ (by decide +kernel)) ggX7_sure_X4_bestOf
set_option maxRecDepth 20000 in
theorem ggX7_sure_X7_tenTo : GoodIn wsX7_sure wsX7_tenTo := goodIn_r _ [114, 115] (by decide +kernel) (by decide +kernel)
set_option maxRecDepth 20000 in
theorem gX7_sure_X7_tenTo : GoodIn wsX7_sure (va_wsS RX7 158 yX7_tenTo wsX7_tenTo) := goodIn_app (goodIn_of _ (by decide +kernel)) ggX7_sure_X7_tenTo
theorem dX7_sure_0 : decode cX7_sure 0 = .ok (.iload_n 1, 1) := by decide +kernel
theorem dX7_sure_1 : decode cX7_sure 1 = .ok (.iconst 1, 1) := by decide +kernel
theorem dX7_sure_2 : decode cX7_sure 2 = .ok (.if_icmp .lt 26, 3) := by decide +kernel
theorem dX7_sure_5 : decode cX7_sure 5 = .ok (.iload_n 1, 1) := by decide +kernel
theorem dX7_sure_6 : decode cX7_sure 6 = .ok (.bipush 12, 2) := by decide +kernel
theorem dX7_sure_8 : decode cX7_sure 8 = .ok (.if_icmp .gt 20, 3) := by decide +kernel
theorem dX7_sure_11 : decode cX7_sure 11 = .ok (.iload_n 2, 1) := by decide +kernel
theorem dX7_sure_12 : decode cX7_sure 12 = .ok (.invokestatic 149, 3) := by decide +kernel
theorem dX7_sure_15 : decode cX7_sure 15 = .ok (.ifCond .eq 13, 3) := by decide +kernel
theorem dX7_sure_18 : decode cX7_sure 18 = .ok (.aload_n 0, 1) := by decide +kernel
theorem dX7_sure_19 : decode cX7_sure 19 = .ok (.getfield 20, 3) := by decide +kernel
theorem dX7_sure_22 : decode cX7_sure 22 = .ok (.invokevirtual 118, 3) := by decide +kernel
theorem dX7_sure_25 : decode cX7_sure 25 = .ok (.ifCond .eq 7, 3) := by decide +kernel
theorem dX7_sure_28 : decode cX7_sure 28 = .ok (.ldc2_w 152, 3) := by decide +kernel
theorem dX7_sure_31 : decode cX7_sure 31 = .ok (.lreturn, 1) := by decide +kernel
theorem dX7_sure_32 : decode cX7_sure 32 = .ok (.aload_n 0, 1) := by decide +kernel
theorem dX7_sure_33 : decode cX7_sure 33 = .ok (.getfield 51, 3) := by decide +kernel
theorem dX7_sure_36 : decode cX7_sure 36 = .ok (.aload_n 0, 1) := by decide +kernel
theorem dX7_sure_37 : decode cX7_sure 37 = .ok (.getfield 20, 3) := by decide +kernel
theorem dX7_sure_40 : decode cX7_sure 40 = .ok (.invokevirtual 182, 3) := by decide +kernel
theorem dX7_sure_43 : decode cX7_sure 43 = .ok (.aload_n 0, 1) := by decide +kernel
theorem dX7_sure_44 : decode cX7_sure 44 = .ok (.getfield 51, 3) := by decide +kernel
theorem dX7_sure_47 : decode cX7_sure 47 = .ok (.aload_n 0, 1) := by decide +kernel
theorem dX7_sure_48 : decode cX7_sure 48 = .ok (.getfield 20, 3) := by decide +kernel
theorem dX7_sure_51 : decode cX7_sure 51 = .ok (.iload_n 1, 1) := by decide +kernel
theorem dX7_sure_52 : decode cX7_sure 52 = .ok (.invokevirtual 185, 3) := by decide +kernel
theorem dX7_sure_55 : decode cX7_sure 55 = .ok (.istore_n 3, 1) := by decide +kernel
theorem dX7_sure_56 : decode cX7_sure 56 = .ok (.iload_n 3, 1) := by decide +kernel
theorem dX7_sure_57 : decode cX7_sure 57 = .ok (.ifCond .ne 10, 3) := by decide +kernel
theorem dX7_sure_60 : decode cX7_sure 60 = .ok (.lconst 0, 1) := by decide +kernel
theorem dX7_sure_61 : decode cX7_sure 61 = .ok (.lconst 1, 1) := by decide +kernel
theorem dX7_sure_62 : decode cX7_sure 62 = .ok (.iload_n 2, 1) := by decide +kernel
theorem dX7_sure_63 : decode cX7_sure 63 = .ok (.invokestatic 162, 3) := by decide +kernel
theorem dX7_sure_66 : decode cX7_sure 66 = .ok (.lreturn, 1) := by decide +kernel
theorem dX7_sure_67 : decode cX7_sure 67 = .ok (.aload_n 0, 1) := by decide +kernel
theorem dX7_sure_68 : decode cX7_sure 68 = .ok (.getfield 51, 3) := by decide +kernel
theorem dX7_sure_71 : decode cX7_sure 71 = .ok (.iload_n 3, 1) := by decide +kernel
theorem dX7_sure_72 : decode cX7_sure 72 = .ok (.aload_n 0, 1) := by decide +kernel
theorem dX7_sure_73 : decode cX7_sure 73 = .ok (.getfield 20, 3) := by decide +kernel
theorem dX7_sure_76 : decode cX7_sure 76 = .ok (.invokevirtual 193, 3) := by decide +kernel
theorem dX7_sure_79 : decode cX7_sure 79 = .ok (.invokevirtual 196, 3) := by decide +kernel
theorem dX7_sure_82 : decode cX7_sure 82 = .ok (.iload_n 3, 1) := by decide +kernel
theorem dX7_sure_83 : decode cX7_sure 83 = .ok (.invokestatic 158, 3) := by decide +kernel
theorem dX7_sure_86 : decode cX7_sure 86 = .ok (.iload_n 2, 1) := by decide +kernel
theorem dX7_sure_87 : decode cX7_sure 87 = .ok (.invokestatic 162, 3) := by decide +kernel
theorem dX7_sure_90 : decode cX7_sure 90 = .ok (.lreturn, 1) := by decide +kernel
set_option maxRecDepth 20000 in
theorem ggX7_cost_X2_has : GoodIn wsX7_cost wsX2_has := goodIn_r _ [6, 7, 82, 83, 84, 85, 86, 87] (by decide +kernel) (by decide +kernel)
set_option maxRecDepth 20000 in
theorem gX7_cost_X2_has : GoodIn wsX7_cost (wsV RX7 96 RX2 yX2_has wsX2_has) := goodIn_app (goodIn_of _ (by decide +kernel)) ggX7_cost_X2_has
set_option maxRecDepth 20000 in
theorem ggX7_cost_X2_isBridged : GoodIn wsX7_cost wsX2_isBridged := goodIn_r _ [11, 12, 13, 3, 4, 5, 6, 7, 82, 83, 84, 85, 86, 87] (by decide +kernel) (by decide +kernel)
set_option maxRecDepth 20000 in
theorem gX7_cost_X2_isBridged : GoodIn wsX7_cost (wsV RX7 115 RX2 yX2_isBridged wsX2_isBridged) := goodIn_app (goodIn_of _ (by decide +kernel)) ggX7_cost_X2_isBridged
set_option maxRecDepth 20000 in
theorem ggX7_cost_X2_fewestTurns : GoodIn wsX7_cost wsX2_fewestTurns := goodIn_r _ [17, 18, 19, 20, 21, 5, 22, 23, 24, 25, 26, 27, 7, 28, 29, 30, 31, 32, 33, 34, 35, 36, 37, 38, 39, 40, 41, 42, 43, 44, 45, 46, 47, 48, 49, 50, 51, 52, 53, 54, 55, 13, 3, 4, 6, 56, 57, 58, 59, 60, 61, 62, 63, 64, 65, 66, 67, 12, 82, 83, 84, 85, 86, 87] (by decide +kernel) (by decide +kernel)
set_option maxRecDepth 20000 in
theorem gX7_cost_X2_fewestTurns : GoodIn wsX7_cost (wsV RX7 178 RX2 yX2_fewestTurns wsX2_fewestTurns) := goodIn_app (goodIn_of _ (by decide +kernel)) ggX7_cost_X2_fewestTurns
set_option maxRecDepth 20000 in
theorem ggX7_cost_X2_setBridged : GoodIn wsX7_cost wsX2_setBridged := goodIn_r _ [71, 12, 13, 3, 4, 5, 6, 7, 82, 83, 84, 85, 86, 87] (by decide +kernel) (by decide +kernel)
set_option maxRecDepth 20000 in
theorem gX7_cost_X2_setBridged : GoodIn wsX7_cost (wsV RX7 125 RX2 yX2_setBridged wsX2_setBridged) := goodIn_app (goodIn_of _ (by decide +kernel)) ggX7_cost_X2_setBridged
theorem dX7_cost_0 : decode cX7_cost 0 = .ok (.aload_n 0, 1) := by decide +kernel
theorem dX7_cost_1 : decode cX7_cost 1 = .ok (.getfield 20, 3) := by decide +kernel
theorem dX7_cost_4 : decode cX7_cost 4 = .ok (.iload_n 1, 1) := by decide +kernel
theorem dX7_cost_5 : decode cX7_cost 5 = .ok (.invokevirtual 96, 3) := by decide +kernel
theorem dX7_cost_8 : decode cX7_cost 8 = .ok (.ifCond .ne 5, 3) := by decide +kernel
theorem dX7_cost_11 : decode cX7_cost 11 = .ok (.iconst (-1), 1) := by decide +kernel
theorem dX7_cost_12 : decode cX7_cost 12 = .ok (.ireturn, 1) := by decide +kernel
theorem dX7_cost_13 : decode cX7_cost 13 = .ok (.aload_n 0, 1) := by decide +kernel
theorem dX7_cost_14 : decode cX7_cost 14 = .ok (.getfield 20, 3) := by decide +kernel
theorem dX7_cost_17 : decode cX7_cost 17 = .ok (.iload_n 1, 1) := by decide +kernel
theorem dX7_cost_18 : decode cX7_cost 18 = .ok (.invokevirtual 115, 3) := by decide +kernel
theorem dX7_cost_21 : decode cX7_cost 21 = .ok (.ifCond .ne 5, 3) := by decide +kernel
theorem dX7_cost_24 : decode cX7_cost 24 = .ok (.iconst 0, 1) := by decide +kernel
theorem dX7_cost_25 : decode cX7_cost 25 = .ok (.ireturn, 1) := by decide +kernel
theorem dX7_cost_26 : decode cX7_cost 26 = .ok (.aload_n 0, 1) := by decide +kernel
theorem dX7_cost_27 : decode cX7_cost 27 = .ok (.getfield 20, 3) := by decide +kernel
theorem dX7_cost_30 : decode cX7_cost 30 = .ok (.invokevirtual 178, 3) := by decide +kernel
theorem dX7_cost_33 : decode cX7_cost 33 = .ok (.istore_n 2, 1) := by decide +kernel
theorem dX7_cost_34 : decode cX7_cost 34 = .ok (.aload_n 0, 1) := by decide +kernel
theorem dX7_cost_35 : decode cX7_cost 35 = .ok (.getfield 20, 3) := by decide +kernel
theorem dX7_cost_38 : decode cX7_cost 38 = .ok (.iload_n 1, 1) := by decide +kernel
theorem dX7_cost_39 : decode cX7_cost 39 = .ok (.iconst 0, 1) := by decide +kernel
theorem dX7_cost_40 : decode cX7_cost 40 = .ok (.invokevirtual 125, 3) := by decide +kernel
theorem dX7_cost_43 : decode cX7_cost 43 = .ok (.aload_n 0, 1) := by decide +kernel
theorem dX7_cost_44 : decode cX7_cost 44 = .ok (.getfield 20, 3) := by decide +kernel
theorem dX7_cost_47 : decode cX7_cost 47 = .ok (.invokevirtual 178, 3) := by decide +kernel
theorem dX7_cost_50 : decode cX7_cost 50 = .ok (.istore_n 3, 1) := by decide +kernel
theorem dX7_cost_51 : decode cX7_cost 51 = .ok (.aload_n 0, 1) := by decide +kernel
theorem dX7_cost_52 : decode cX7_cost 52 = .ok (.getfield 20, 3) := by decide +kernel
theorem dX7_cost_55 : decode cX7_cost 55 = .ok (.iload_n 1, 1) := by decide +kernel
theorem dX7_cost_56 : decode cX7_cost 56 = .ok (.iconst 1, 1) := by decide +kernel
theorem dX7_cost_57 : decode cX7_cost 57 = .ok (.invokevirtual 125, 3) := by decide +kernel
theorem dX7_cost_60 : decode cX7_cost 60 = .ok (.iload_n 2, 1) := by decide +kernel
theorem dX7_cost_61 : decode cX7_cost 61 = .ok (.bipush (-9), 2) := by decide +kernel
theorem dX7_cost_63 : decode cX7_cost 63 = .ok (.if_icmp .eq 9, 3) := by decide +kernel
theorem dX7_cost_66 : decode cX7_cost 66 = .ok (.iload_n 3, 1) := by decide +kernel
theorem dX7_cost_67 : decode cX7_cost 67 = .ok (.bipush (-9), 2) := by decide +kernel
theorem dX7_cost_69 : decode cX7_cost 69 = .ok (.if_icmp .ne 8, 3) := by decide +kernel
theorem dX7_cost_72 : decode cX7_cost 72 = .ok (.bipush (-9), 2) := by decide +kernel
theorem dX7_cost_74 : decode cX7_cost 74 = .ok (.goto 6, 3) := by decide +kernel
theorem dX7_cost_77 : decode cX7_cost 77 = .ok (.iload_n 2, 1) := by decide +kernel
theorem dX7_cost_78 : decode cX7_cost 78 = .ok (.iload_n 3, 1) := by decide +kernel
theorem dX7_cost_79 : decode cX7_cost 79 = .ok (.isub, 1) := by decide +kernel
theorem dX7_cost_80 : decode cX7_cost 80 = .ok (.ireturn, 1) := by decide +kernel
set_option maxRecDepth 20000 in
theorem ggX7_reading_X2_has : GoodIn wsX7_reading wsX2_has := goodIn_r _ [7, 8, 30, 31, 32, 33, 34, 35] (by decide +kernel) (by decide +kernel)
set_option maxRecDepth 20000 in
theorem gX7_reading_X2_has : GoodIn wsX7_reading (wsV RX7 96 RX2 yX2_has wsX2_has) := goodIn_app (goodIn_of _ (by decide +kernel)) ggX7_reading_X2_has
set_option maxRecDepth 20000 in
theorem ggX7_reading_X1_add : GoodIn wsX7_reading wsX1_add := goodIn_r _ [13, 14, 15, 16, 27, 28, 29] (by decide +kernel) (by decide +kernel)
set_option maxRecDepth 20000 in
theorem gX7_reading_X1_add : GoodIn wsX7_reading (wsV RX7 200 RX1 yX1_add wsX1_add) := goodIn_app (goodIn_of _ (by decide +kernel)) ggX7_reading_X1_add
theorem dX7_reading_0 : decode cX7_reading 0 = .ok (.aload_n 0, 1) := by decide +kernel
theorem dX7_reading_1 : decode cX7_reading 1 = .ok (.getfield 20, 3) := by decide +kernel
theorem dX7_reading_4 : decode cX7_reading 4 = .ok (.iload_n 2, 1) := by decide +kernel
theorem dX7_reading_5 : decode cX7_reading 5 = .ok (.invokevirtual 96, 3) := by decide +kernel
theorem dX7_reading_8 : decode cX7_reading 8 = .ok (.ifCond .ne 5, 3) := by decide +kernel
theorem dX7_reading_11 : decode cX7_reading 11 = .ok (.iconst (-1), 1) := by decide +kernel
theorem dX7_reading_12 : decode cX7_reading 12 = .ok (.ireturn, 1) := by decide +kernel
theorem dX7_reading_13 : decode cX7_reading 13 = .ok (.iload_n 1, 1) := by decide +kernel
theorem dX7_reading_14 : decode cX7_reading 14 = .ok (.iconst 1, 1) := by decide +kernel
theorem dX7_reading_15 : decode cX7_reading 15 = .ok (.if_icmp .lt 9, 3) := by decide +kernel
theorem dX7_reading_18 : decode cX7_reading 18 = .ok (.iload_n 1, 1) := by decide +kernel
theorem dX7_reading_19 : decode cX7_reading 19 = .ok (.bipush 12, 2) := by decide +kernel
theorem dX7_reading_21 : decode cX7_reading 21 = .ok (.if_icmp .le 6, 3) := by decide +kernel
theorem dX7_reading_24 : decode cX7_reading 24 = .ok (.bipush (-2), 2) := by decide +kernel
theorem dX7_reading_26 : decode cX7_reading 26 = .ok (.ireturn, 1) := by decide +kernel
theorem dX7_reading_27 : decode cX7_reading 27 = .ok (.aload_n 0, 1) := by decide +kernel
theorem dX7_reading_28 : decode cX7_reading 28 = .ok (.getfield 44, 3) := by decide +kernel
theorem dX7_reading_31 : decode cX7_reading 31 = .ok (.getfield 132, 3) := by decide +kernel
theorem dX7_reading_34 : decode cX7_reading 34 = .ok (.bipush 8, 2) := by decide +kernel
theorem dX7_reading_36 : decode cX7_reading 36 = .ok (.if_icmp .lt 6, 3) := by decide +kernel
theorem dX7_reading_39 : decode cX7_reading 39 = .ok (.bipush (-4), 2) := by decide +kernel
theorem dX7_reading_41 : decode cX7_reading 41 = .ok (.ireturn, 1) := by decide +kernel
theorem dX7_reading_42 : decode cX7_reading 42 = .ok (.aload_n 0, 1) := by decide +kernel
theorem dX7_reading_43 : decode cX7_reading 43 = .ok (.getfield 44, 3) := by decide +kernel
theorem dX7_reading_46 : decode cX7_reading 46 = .ok (.iload_n 1, 1) := by decide +kernel
theorem dX7_reading_47 : decode cX7_reading 47 = .ok (.iload_n 2, 1) := by decide +kernel
theorem dX7_reading_48 : decode cX7_reading 48 = .ok (.invokevirtual 200, 3) := by decide +kernel
theorem dX7_reading_51 : decode cX7_reading 51 = .ok (.aload_n 0, 1) := by decide +kernel
theorem dX7_reading_52 : decode cX7_reading 52 = .ok (.getfield 44, 3) := by decide +kernel
theorem dX7_reading_55 : decode cX7_reading 55 = .ok (.getfield 132, 3) := by decide +kernel
theorem dX7_reading_58 : decode cX7_reading 58 = .ok (.iconst 1, 1) := by decide +kernel
theorem dX7_reading_59 : decode cX7_reading 59 = .ok (.isub, 1) := by decide +kernel
theorem dX7_reading_60 : decode cX7_reading 60 = .ok (.ireturn, 1) := by decide +kernel
theorem dX7_back_0 : decode cX7_back 0 = .ok (.iload_n 1, 1) := by decide +kernel
theorem dX7_back_1 : decode cX7_back 1 = .ok (.ifCond .lt 14, 3) := by decide +kernel
theorem dX7_back_4 : decode cX7_back 4 = .ok (.iload_n 1, 1) := by decide +kernel
theorem dX7_back_5 : decode cX7_back 5 = .ok (.aload_n 0, 1) := by decide +kernel
theorem dX7_back_6 : decode cX7_back 6 = .ok (.getfield 44, 3) := by decide +kernel
theorem dX7_back_9 : decode cX7_back 9 = .ok (.getfield 132, 3) := by decide +kernel
theorem dX7_back_12 : decode cX7_back 12 = .ok (.if_icmp .le 6, 3) := by decide +kernel
theorem dX7_back_15 : decode cX7_back 15 = .ok (.bipush (-2), 2) := by decide +kernel
theorem dX7_back_17 : decode cX7_back 17 = .ok (.ireturn, 1) := by decide +kernel
theorem dX7_back_18 : decode cX7_back 18 = .ok (.aload_n 0, 1) := by decide +kernel
theorem dX7_back_19 : decode cX7_back 19 = .ok (.getfield 44, 3) := by decide +kernel
theorem dX7_back_22 : decode cX7_back 22 = .ok (.dup, 1) := by decide +kernel
theorem dX7_back_23 : decode cX7_back 23 = .ok (.getfield 132, 3) := by decide +kernel
theorem dX7_back_26 : decode cX7_back 26 = .ok (.iload_n 1, 1) := by decide +kernel
theorem dX7_back_27 : decode cX7_back 27 = .ok (.isub, 1) := by decide +kernel
theorem dX7_back_28 : decode cX7_back 28 = .ok (.putfield 132, 3) := by decide +kernel
theorem dX7_back_31 : decode cX7_back 31 = .ok (.aload_n 0, 1) := by decide +kernel
theorem dX7_back_32 : decode cX7_back 32 = .ok (.getfield 44, 3) := by decide +kernel
theorem dX7_back_35 : decode cX7_back 35 = .ok (.getfield 132, 3) := by decide +kernel
theorem dX7_back_38 : decode cX7_back 38 = .ok (.ireturn, 1) := by decide +kernel
set_option maxRecDepth 20000 in
theorem ggX7_ways_X2_isNone : GoodIn wsX7_ways wsX2_isNone := goodIn_r _ [8, 9, 103, 104, 105, 106, 107, 108] (by decide +kernel) (by decide +kernel)
set_option maxRecDepth 20000 in
theorem gX7_ways_X2_isNone : GoodIn wsX7_ways (wsV RX7 118 RX2 yX2_isNone wsX2_isNone) := goodIn_app (goodIn_of _ (by decide +kernel)) ggX7_ways_X2_isNone
set_option maxRecDepth 20000 in
theorem ggX7_ways_X6_fill : GoodIn wsX7_ways wsX6_fill := goodIn_r _ [14, 15, 16, 17, 18, 19, 20, 21, 22, 23, 24, 25, 26, 7, 27, 9, 28, 29, 30, 31, 32, 33, 34, 35, 36, 37, 38, 39, 40, 41, 13, 42, 43, 44, 45, 46, 47, 48, 49, 50, 51, 52, 53, 54, 55, 56, 57, 58, 59, 60, 61, 62, 63, 64, 65, 66, 67, 68, 69, 70, 71, 72, 73, 74, 75, 76, 77, 109, 103, 104, 105, 106, 107, 108, 110, 111, 112] (by decide +kernel) (by decide +kernel)
set_option maxRecDepth 20000 in
theorem gX7_ways_X6_fill : GoodIn wsX7_ways (wsV RX7 204 RX6 yX6_fill wsX6_fill) := goodIn_app (goodIn_of _ (by decide +kernel)) ggX7_ways_X6_fill
set_option maxRecDepth 20000 in
theorem ggX7_ways_X2_start : GoodIn wsX7_ways wsX2_start := goodIn_r _ [81, 82, 103, 104, 105, 106, 107, 108] (by decide +kernel) (by decide +kernel)
set_option maxRecDepth 20000 in
theorem gX7_ways_X2_start : GoodIn wsX7_ways (wsV RX7 193 RX2 yX2_start wsX2_start) := goodIn_app (goodIn_of _ (by decide +kernel)) ggX7_ways_X2_start
set_option maxRecDepth 20000 in
theorem ggX7_ways_X6_waysFrom : GoodIn wsX7_ways wsX6_waysFrom := goodIn_r _ [77, 15, 109] (by decide +kernel) (by decide +kernel)
set_option maxRecDepth 20000 in
theorem gX7_ways_X6_waysFrom : GoodIn wsX7_ways (wsV RX7 207 RX6 yX6_waysFrom wsX6_waysFrom) := goodIn_app (goodIn_of _ (by decide +kernel)) ggX7_ways_X6_waysFrom
set_option maxRecDepth 20000 in
theorem ggX7_ways_X6_actOf : GoodIn wsX7_ways wsX6_actOf := goodIn_r _ [87, 88, 79, 80, 7, 81, 82, 89, 90, 91, 13, 92, 43, 44, 45, 46, 47, 17, 18, 19, 28, 29, 30, 48, 49, 50, 51, 9, 52, 53, 54, 55, 56, 57, 58, 59, 60, 61, 62, 63, 64, 65, 66, 67, 68, 69, 70, 71, 72, 73, 74, 75, 76, 77, 15, 103, 104, 105, 106, 107, 108, 109] (by decide +kernel) (by decide +kernel)
set_option maxRecDepth 20000 in
theorem gX7_ways_X6_actOf : GoodIn wsX7_ways (wsV RX7 211 RX6 yX6_actOf wsX6_actOf) := goodIn_app (goodIn_of _ (by decide +kernel)) ggX7_ways_X6_actOf
theorem dX7_ways_0 : decode cX7_ways 0 = .ok (.iload_n 1, 1) := by decide +kernel
theorem dX7_ways_1 : decode cX7_ways 1 = .ok (.ifCond .lt 20, 3) := by decide +kernel
theorem dX7_ways_4 : decode cX7_ways 4 = .ok (.iload_n 1, 1) := by decide +kernel
theorem dX7_ways_5 : decode cX7_ways 5 = .ok (.bipush 7, 2) := by decide +kernel
theorem dX7_ways_7 : decode cX7_ways 7 = .ok (.if_icmp .gt 14, 3) := by decide +kernel
theorem dX7_ways_10 : decode cX7_ways 10 = .ok (.iload_n 2, 1) := by decide +kernel
theorem dX7_ways_11 : decode cX7_ways 11 = .ok (.iconst (-1), 1) := by decide +kernel
theorem dX7_ways_12 : decode cX7_ways 12 = .ok (.if_icmp .lt 9, 3) := by decide +kernel
theorem dX7_ways_15 : decode cX7_ways 15 = .ok (.iload_n 2, 1) := by decide +kernel
theorem dX7_ways_16 : decode cX7_ways 16 = .ok (.bipush 7, 2) := by decide +kernel
theorem dX7_ways_18 : decode cX7_ways 18 = .ok (.if_icmp .lt 6, 3) := by decide +kernel
theorem dX7_ways_21 : decode cX7_ways 21 = .ok (.bipush (-2), 2) := by decide +kernel
theorem dX7_ways_23 : decode cX7_ways 23 = .ok (.ireturn, 1) := by decide +kernel
theorem dX7_ways_24 : decode cX7_ways 24 = .ok (.aload_n 0, 1) := by decide +kernel
theorem dX7_ways_25 : decode cX7_ways 25 = .ok (.getfield 20, 3) := by decide +kernel
theorem dX7_ways_28 : decode cX7_ways 28 = .ok (.invokevirtual 118, 3) := by decide +kernel
theorem dX7_ways_31 : decode cX7_ways 31 = .ok (.ifCond .eq 6, 3) := by decide +kernel
theorem dX7_ways_34 : decode cX7_ways 34 = .ok (.bipush (-3), 2) := by decide +kernel
theorem dX7_ways_36 : decode cX7_ways 36 = .ok (.ireturn, 1) := by decide +kernel
theorem dX7_ways_37 : decode cX7_ways 37 = .ok (.aload_n 0, 1) := by decide +kernel
theorem dX7_ways_38 : decode cX7_ways 38 = .ok (.getfield 58, 3) := by decide +kernel
theorem dX7_ways_41 : decode cX7_ways 41 = .ok (.aload_n 0, 1) := by decide +kernel
theorem dX7_ways_42 : decode cX7_ways 42 = .ok (.getfield 20, 3) := by decide +kernel
theorem dX7_ways_45 : decode cX7_ways 45 = .ok (.aload_n 0, 1) := by decide +kernel
theorem dX7_ways_46 : decode cX7_ways 46 = .ok (.getfield 44, 3) := by decide +kernel
theorem dX7_ways_49 : decode cX7_ways 49 = .ok (.iload_n 1, 1) := by decide +kernel
theorem dX7_ways_50 : decode cX7_ways 50 = .ok (.invokevirtual 204, 3) := by decide +kernel
theorem dX7_ways_53 : decode cX7_ways 53 = .ok (.aload_n 0, 1) := by decide +kernel
