theorem dX0_init_0 : decode cX0_init 0 = .ok (.aload_n 0, 1) := by decide +kernel
theorem dX0_init_1 : decode cX0_init 1 = .ok (.invokespecial 3, 3) := by decide +kernel
theorem dX0_init_4 : decode cX0_init 4 = .ok (.aload_n 0, 1) := by decide +kernel
theorem dX0_init_5 : decode cX0_init 5 = .ok (.bipush 18, 2) := by decide +kernel
theorem dX0_init_7 : decode cX0_init 7 = .ok (.newarray .int, 2) := by decide +kernel
theorem dX0_init_9 : decode cX0_init 9 = .ok (.putfield 9, 3) := by decide +kernel
theorem dX0_init_12 : decode cX0_init 12 = .ok (.aload_n 0, 1) := by decide +kernel
theorem dX0_init_13 : decode cX0_init 13 = .ok (.bipush 18, 2) := by decide +kernel
theorem dX0_init_15 : decode cX0_init 15 = .ok (.newarray .int, 2) := by decide +kernel
theorem dX0_init_17 : decode cX0_init 17 = .ok (.putfield 15, 3) := by decide +kernel
theorem dX0_init_20 : decode cX0_init 20 = .ok (.aload_n 0, 1) := by decide +kernel
theorem dX0_init_21 : decode cX0_init 21 = .ok (.bipush (-9), 2) := by decide +kernel
theorem dX0_init_23 : decode cX0_init 23 = .ok (.putfield 18, 3) := by decide +kernel
theorem dX0_init_26 : decode cX0_init 26 = .ok (.return_, 1) := by decide +kernel
set_option maxRecDepth 20000 in
theorem ggX0_readActs_X3_at : GoodIn wsX0_readActs wsX3_at := goodIn_r _ [14, 15, 16, 17, 18, 13, 19, 20, 26, 27, 28] (by decide +kernel) (by decide +kernel)
set_option maxRecDepth 20000 in
theorem gX0_readActs_X3_at : GoodIn wsX0_readActs (wsV RX0 34 RX3 yX3_at wsX3_at) := goodIn_app (goodIn_of _ (by decide +kernel)) ggX0_readActs_X3_at
theorem dX0_readActs_0 : decode cX0_readActs 0 = .ok (.aload_n 0, 1) := by decide +kernel
theorem dX0_readActs_1 : decode cX0_readActs 1 = .ok (.iconst 0, 1) := by decide +kernel
theorem dX0_readActs_2 : decode cX0_readActs 2 = .ok (.iload_n 3, 1) := by decide +kernel
theorem dX0_readActs_3 : decode cX0_readActs 3 = .ok (.bipush 18, 2) := by decide +kernel
theorem dX0_readActs_5 : decode cX0_readActs 5 = .ok (.invokestatic 22, 3) := by decide +kernel
theorem dX0_readActs_8 : decode cX0_readActs 8 = .ok (.invokestatic 28, 3) := by decide +kernel
theorem dX0_readActs_11 : decode cX0_readActs 11 = .ok (.putfield 31, 3) := by decide +kernel
theorem dX0_readActs_14 : decode cX0_readActs 14 = .ok (.iconst 0, 1) := by decide +kernel
theorem dX0_readActs_15 : decode cX0_readActs 15 = .ok (.istore 4, 2) := by decide +kernel
theorem dX0_readActs_17 : decode cX0_readActs 17 = .ok (.iload 4, 2) := by decide +kernel
theorem dX0_readActs_19 : decode cX0_readActs 19 = .ok (.aload_n 0, 1) := by decide +kernel
theorem dX0_readActs_20 : decode cX0_readActs 20 = .ok (.getfield 31, 3) := by decide +kernel
theorem dX0_readActs_23 : decode cX0_readActs 23 = .ok (.if_icmp .ge 41, 3) := by decide +kernel
theorem dX0_readActs_26 : decode cX0_readActs 26 = .ok (.aload_n 1, 1) := by decide +kernel
theorem dX0_readActs_27 : decode cX0_readActs 27 = .ok (.iload_n 2, 1) := by decide +kernel
theorem dX0_readActs_28 : decode cX0_readActs 28 = .ok (.iload 4, 2) := by decide +kernel
theorem dX0_readActs_30 : decode cX0_readActs 30 = .ok (.iadd, 1) := by decide +kernel
theorem dX0_readActs_31 : decode cX0_readActs 31 = .ok (.invokevirtual 34, 3) := by decide +kernel
theorem dX0_readActs_34 : decode cX0_readActs 34 = .ok (.istore 5, 2) := by decide +kernel
theorem dX0_readActs_36 : decode cX0_readActs 36 = .ok (.iload 5, 2) := by decide +kernel
theorem dX0_readActs_38 : decode cX0_readActs 38 = .ok (.ifCond .lt 9, 3) := by decide +kernel
theorem dX0_readActs_41 : decode cX0_readActs 41 = .ok (.iload 5, 2) := by decide +kernel
theorem dX0_readActs_43 : decode cX0_readActs 43 = .ok (.iconst 3, 1) := by decide +kernel
theorem dX0_readActs_44 : decode cX0_readActs 44 = .ok (.if_icmp .le 5, 3) := by decide +kernel
theorem dX0_readActs_47 : decode cX0_readActs 47 = .ok (.iconst 0, 1) := by decide +kernel
theorem dX0_readActs_48 : decode cX0_readActs 48 = .ok (.ireturn, 1) := by decide +kernel
theorem dX0_readActs_49 : decode cX0_readActs 49 = .ok (.aload_n 0, 1) := by decide +kernel
theorem dX0_readActs_50 : decode cX0_readActs 50 = .ok (.getfield 9, 3) := by decide +kernel
theorem dX0_readActs_53 : decode cX0_readActs 53 = .ok (.iload 4, 2) := by decide +kernel
theorem dX0_readActs_55 : decode cX0_readActs 55 = .ok (.iload 5, 2) := by decide +kernel
theorem dX0_readActs_57 : decode cX0_readActs 57 = .ok (.iastore, 1) := by decide +kernel
theorem dX0_readActs_58 : decode cX0_readActs 58 = .ok (.iinc 4 1, 3) := by decide +kernel
theorem dX0_readActs_61 : decode cX0_readActs 61 = .ok (.goto (-44), 3) := by decide +kernel
theorem dX0_readActs_64 : decode cX0_readActs 64 = .ok (.iconst 1, 1) := by decide +kernel
theorem dX0_readActs_65 : decode cX0_readActs 65 = .ok (.ireturn, 1) := by decide +kernel
set_option maxRecDepth 20000 in
theorem ggX0_go_X2_start : GoodIn wsX0_go wsX2_start := goodIn_r _ [10, 11, 55, 56, 57, 58, 59, 60] (by decide +kernel) (by decide +kernel)
set_option maxRecDepth 20000 in
theorem gX0_go_X2_start : GoodIn wsX0_go (wsV RX0 40 RX2 yX2_start wsX2_start) := goodIn_app (goodIn_of _ (by decide +kernel)) ggX0_go_X2_start
set_option maxRecDepth 20000 in
theorem ggX0_go_X2_after : GoodIn wsX0_go wsX2_after := goodIn_r _ [15, 16, 17, 18, 19, 20, 21, 22, 23, 24, 25, 9, 26, 27, 28, 29, 30, 31, 32, 33, 34, 35, 36, 37, 38, 39, 40, 41, 42, 43, 44, 45, 46, 47, 48, 49, 55, 56, 57, 58, 59, 60] (by decide +kernel) (by decide +kernel)
set_option maxRecDepth 20000 in
theorem gX0_go_X2_after : GoodIn wsX0_go (wsV RX0 49 RX2 yX2_after wsX2_after) := goodIn_app (goodIn_of _ (by decide +kernel)) ggX0_go_X2_after
set_option maxRecDepth 20000 in
theorem ggX0_go_X7_cellOf : GoodIn wsX0_go wsX7_cellOf := goodIn_r _ [22] (by decide +kernel) (by decide +kernel)
set_option maxRecDepth 20000 in
theorem gX0_go_X7_cellOf_n52 : GoodIn wsX0_go (wsX7_cellOf) := ggX0_go_X7_cellOf
theorem dX0_go_0 : decode cX0_go 0 = .ok (.aload_n 0, 1) := by decide +kernel
theorem dX0_go_1 : decode cX0_go 1 = .ok (.aload_n 1, 1) := by decide +kernel
theorem dX0_go_2 : decode cX0_go 2 = .ok (.invokevirtual 40, 3) := by decide +kernel
theorem dX0_go_5 : decode cX0_go 5 = .ok (.putfield 46, 3) := by decide +kernel
theorem dX0_go_8 : decode cX0_go 8 = .ok (.aload_n 0, 1) := by decide +kernel
theorem dX0_go_9 : decode cX0_go 9 = .ok (.bipush (-9), 2) := by decide +kernel
theorem dX0_go_11 : decode cX0_go 11 = .ok (.putfield 18, 3) := by decide +kernel
theorem dX0_go_14 : decode cX0_go 14 = .ok (.iconst 0, 1) := by decide +kernel
theorem dX0_go_15 : decode cX0_go 15 = .ok (.istore_n 2, 1) := by decide +kernel
theorem dX0_go_16 : decode cX0_go 16 = .ok (.iload_n 2, 1) := by decide +kernel
theorem dX0_go_17 : decode cX0_go 17 = .ok (.aload_n 0, 1) := by decide +kernel
theorem dX0_go_18 : decode cX0_go 18 = .ok (.getfield 31, 3) := by decide +kernel
theorem dX0_go_21 : decode cX0_go 21 = .ok (.if_icmp .ge 53, 3) := by decide +kernel
theorem dX0_go_24 : decode cX0_go 24 = .ok (.aload_n 1, 1) := by decide +kernel
theorem dX0_go_25 : decode cX0_go 25 = .ok (.aload_n 0, 1) := by decide +kernel
theorem dX0_go_26 : decode cX0_go 26 = .ok (.getfield 46, 3) := by decide +kernel
theorem dX0_go_29 : decode cX0_go 29 = .ok (.aload_n 0, 1) := by decide +kernel
theorem dX0_go_30 : decode cX0_go 30 = .ok (.getfield 9, 3) := by decide +kernel
theorem dX0_go_33 : decode cX0_go 33 = .ok (.iload_n 2, 1) := by decide +kernel
theorem dX0_go_34 : decode cX0_go 34 = .ok (.iaload, 1) := by decide +kernel
theorem dX0_go_35 : decode cX0_go 35 = .ok (.invokevirtual 49, 3) := by decide +kernel
theorem dX0_go_38 : decode cX0_go 38 = .ok (.istore_n 3, 1) := by decide +kernel
theorem dX0_go_39 : decode cX0_go 39 = .ok (.iload_n 3, 1) := by decide +kernel
theorem dX0_go_40 : decode cX0_go 40 = .ok (.iconst (-1), 1) := by decide +kernel
theorem dX0_go_41 : decode cX0_go 41 = .ok (.if_icmp .ne 9, 3) := by decide +kernel
theorem dX0_go_44 : decode cX0_go 44 = .ok (.aload_n 0, 1) := by decide +kernel
theorem dX0_go_45 : decode cX0_go 45 = .ok (.iload_n 2, 1) := by decide +kernel
theorem dX0_go_46 : decode cX0_go 46 = .ok (.putfield 18, 3) := by decide +kernel
theorem dX0_go_49 : decode cX0_go 49 = .ok (.return_, 1) := by decide +kernel
theorem dX0_go_50 : decode cX0_go 50 = .ok (.aload_n 0, 1) := by decide +kernel
theorem dX0_go_51 : decode cX0_go 51 = .ok (.getfield 15, 3) := by decide +kernel
theorem dX0_go_54 : decode cX0_go 54 = .ok (.iload_n 2, 1) := by decide +kernel
theorem dX0_go_55 : decode cX0_go 55 = .ok (.aload_n 0, 1) := by decide +kernel
theorem dX0_go_56 : decode cX0_go 56 = .ok (.getfield 46, 3) := by decide +kernel
theorem dX0_go_59 : decode cX0_go 59 = .ok (.invokestatic 52, 3) := by decide +kernel
theorem dX0_go_62 : decode cX0_go 62 = .ok (.iastore, 1) := by decide +kernel
theorem dX0_go_63 : decode cX0_go 63 = .ok (.aload_n 0, 1) := by decide +kernel
theorem dX0_go_64 : decode cX0_go 64 = .ok (.iload_n 3, 1) := by decide +kernel
theorem dX0_go_65 : decode cX0_go 65 = .ok (.putfield 46, 3) := by decide +kernel
theorem dX0_go_68 : decode cX0_go 68 = .ok (.iinc 2 1, 3) := by decide +kernel
theorem dX0_go_71 : decode cX0_go 71 = .ok (.goto (-55), 3) := by decide +kernel
theorem dX0_go_74 : decode cX0_go 74 = .ok (.return_, 1) := by decide +kernel
set_option maxRecDepth 20000 in
theorem ggX0_dryParts_X2_holdsIn : GoodIn wsX0_dryParts wsX2_holdsIn := goodIn_r _ [8, 9, 10, 11, 7, 12, 13, 14, 15, 16, 17, 18, 19, 20, 21, 22, 23, 24, 25, 26, 27, 28, 29, 30, 31, 32, 41, 42, 43, 44, 45, 46] (by decide +kernel) (by decide +kernel)
set_option maxRecDepth 20000 in
theorem gX0_dryParts_X2_holdsIn : GoodIn wsX0_dryParts (wsV RX0 55 RX2 yX2_holdsIn wsX2_holdsIn) := goodIn_app (goodIn_of _ (by decide +kernel)) ggX0_dryParts_X2_holdsIn
set_option maxRecDepth 20000 in
theorem ggX0_dryParts_X7_dryTenths : GoodIn wsX0_dryParts wsX7_dryTenths := goodIn_r _ [35] (by decide +kernel) (by decide +kernel)
set_option maxRecDepth 20000 in
theorem gX0_dryParts_X7_dryTenths_n58 : GoodIn wsX0_dryParts (wsX7_dryTenths) := ggX0_dryParts_X7_dryTenths
theorem dX0_dryParts_0 : decode cX0_dryParts 0 = .ok (.lconst 1, 1) := by decide +kernel
theorem dX0_dryParts_1 : decode cX0_dryParts 1 = .ok (.lstore 4, 2) := by decide +kernel
theorem dX0_dryParts_3 : decode cX0_dryParts 3 = .ok (.iconst 0, 1) := by decide +kernel
theorem dX0_dryParts_4 : decode cX0_dryParts 4 = .ok (.istore 6, 2) := by decide +kernel
theorem dX0_dryParts_6 : decode cX0_dryParts 6 = .ok (.iload 6, 2) := by decide +kernel
theorem dX0_dryParts_8 : decode cX0_dryParts 8 = .ok (.aload_n 0, 1) := by decide +kernel
theorem dX0_dryParts_9 : decode cX0_dryParts 9 = .ok (.getfield 31, 3) := by decide +kernel
theorem dX0_dryParts_12 : decode cX0_dryParts 12 = .ok (.if_icmp .ge 50, 3) := by decide +kernel
theorem dX0_dryParts_15 : decode cX0_dryParts 15 = .ok (.aload_n 0, 1) := by decide +kernel
theorem dX0_dryParts_16 : decode cX0_dryParts 16 = .ok (.getfield 15, 3) := by decide +kernel
theorem dX0_dryParts_19 : decode cX0_dryParts 19 = .ok (.iload 6, 2) := by decide +kernel
theorem dX0_dryParts_21 : decode cX0_dryParts 21 = .ok (.iaload, 1) := by decide +kernel
theorem dX0_dryParts_22 : decode cX0_dryParts 22 = .ok (.istore 7, 2) := by decide +kernel
theorem dX0_dryParts_24 : decode cX0_dryParts 24 = .ok (.lload 4, 2) := by decide +kernel
theorem dX0_dryParts_26 : decode cX0_dryParts 26 = .ok (.aload_n 0, 1) := by decide +kernel
theorem dX0_dryParts_27 : decode cX0_dryParts 27 = .ok (.getfield 9, 3) := by decide +kernel
theorem dX0_dryParts_30 : decode cX0_dryParts 30 = .ok (.iload 6, 2) := by decide +kernel
theorem dX0_dryParts_32 : decode cX0_dryParts 32 = .ok (.iaload, 1) := by decide +kernel
theorem dX0_dryParts_33 : decode cX0_dryParts 33 = .ok (.iload 7, 2) := by decide +kernel
theorem dX0_dryParts_35 : decode cX0_dryParts 35 = .ok (.iload_n 2, 1) := by decide +kernel
theorem dX0_dryParts_36 : decode cX0_dryParts 36 = .ok (.if_icmp .ne 7, 3) := by decide +kernel
theorem dX0_dryParts_39 : decode cX0_dryParts 39 = .ok (.iload_n 3, 1) := by decide +kernel
theorem dX0_dryParts_40 : decode cX0_dryParts 40 = .ok (.goto 9, 3) := by decide +kernel
theorem dX0_dryParts_43 : decode cX0_dryParts 43 = .ok (.aload_n 1, 1) := by decide +kernel
theorem dX0_dryParts_44 : decode cX0_dryParts 44 = .ok (.iload 7, 2) := by decide +kernel
theorem dX0_dryParts_46 : decode cX0_dryParts 46 = .ok (.invokevirtual 55, 3) := by decide +kernel
theorem dX0_dryParts_49 : decode cX0_dryParts 49 = .ok (.invokestatic 58, 3) := by decide +kernel
theorem dX0_dryParts_52 : decode cX0_dryParts 52 = .ok (.i2l, 1) := by decide +kernel
theorem dX0_dryParts_53 : decode cX0_dryParts 53 = .ok (.lmul, 1) := by decide +kernel
theorem dX0_dryParts_54 : decode cX0_dryParts 54 = .ok (.lstore 4, 2) := by decide +kernel
theorem dX0_dryParts_56 : decode cX0_dryParts 56 = .ok (.iinc 6 1, 3) := by decide +kernel
theorem dX0_dryParts_59 : decode cX0_dryParts 59 = .ok (.goto (-53), 3) := by decide +kernel
theorem dX0_dryParts_62 : decode cX0_dryParts 62 = .ok (.lload 4, 2) := by decide +kernel
theorem dX0_dryParts_64 : decode cX0_dryParts 64 = .ok (.lreturn, 1) := by decide +kernel
set_option maxRecDepth 20000 in
theorem ggX0_poledCells_J6_bitCount_0f7a4 : GoodIn wsX0_poledCells wsJ6_bitCount_0f7a4 := goodIn_r _ [7, 8, 9, 10] (by decide +kernel) (by decide +kernel)
set_option maxRecDepth 20000 in
theorem gX0_poledCells_J6_bitCount_0f7a4 : GoodIn wsX0_poledCells (va_wsS RX0 61 yJ6_bitCount_0f7a4 wsJ6_bitCount_0f7a4) := goodIn_app (goodIn_of _ (by decide +kernel)) ggX0_poledCells_J6_bitCount_0f7a4
theorem dX0_poledCells_0 : decode cX0_poledCells 0 = .ok (.iconst 0, 1) := by decide +kernel
theorem dX0_poledCells_1 : decode cX0_poledCells 1 = .ok (.istore_n 1, 1) := by decide +kernel
theorem dX0_poledCells_2 : decode cX0_poledCells 2 = .ok (.iconst 0, 1) := by decide +kernel
theorem dX0_poledCells_3 : decode cX0_poledCells 3 = .ok (.istore_n 2, 1) := by decide +kernel
theorem dX0_poledCells_4 : decode cX0_poledCells 4 = .ok (.iload_n 2, 1) := by decide +kernel
theorem dX0_poledCells_5 : decode cX0_poledCells 5 = .ok (.aload_n 0, 1) := by decide +kernel
theorem dX0_poledCells_6 : decode cX0_poledCells 6 = .ok (.getfield 31, 3) := by decide +kernel
theorem dX0_poledCells_9 : decode cX0_poledCells 9 = .ok (.if_icmp .ge 39, 3) := by decide +kernel
theorem dX0_poledCells_12 : decode cX0_poledCells 12 = .ok (.aload_n 0, 1) := by decide +kernel
theorem dX0_poledCells_13 : decode cX0_poledCells 13 = .ok (.getfield 9, 3) := by decide +kernel
theorem dX0_poledCells_16 : decode cX0_poledCells 16 = .ok (.iload_n 2, 1) := by decide +kernel
theorem dX0_poledCells_17 : decode cX0_poledCells 17 = .ok (.iaload, 1) := by decide +kernel
theorem dX0_poledCells_18 : decode cX0_poledCells 18 = .ok (.ifCond .eq 13, 3) := by decide +kernel
theorem dX0_poledCells_21 : decode cX0_poledCells 21 = .ok (.aload_n 0, 1) := by decide +kernel
theorem dX0_poledCells_22 : decode cX0_poledCells 22 = .ok (.getfield 9, 3) := by decide +kernel
theorem dX0_poledCells_25 : decode cX0_poledCells 25 = .ok (.iload_n 2, 1) := by decide +kernel
theorem dX0_poledCells_26 : decode cX0_poledCells 26 = .ok (.iaload, 1) := by decide +kernel
theorem dX0_poledCells_27 : decode cX0_poledCells 27 = .ok (.iconst 2, 1) := by decide +kernel
theorem dX0_poledCells_28 : decode cX0_poledCells 28 = .ok (.if_icmp .ne 14, 3) := by decide +kernel
theorem dX0_poledCells_31 : decode cX0_poledCells 31 = .ok (.iload_n 1, 1) := by decide +kernel
theorem dX0_poledCells_32 : decode cX0_poledCells 32 = .ok (.iconst 1, 1) := by decide +kernel
theorem dX0_poledCells_33 : decode cX0_poledCells 33 = .ok (.aload_n 0, 1) := by decide +kernel
theorem dX0_poledCells_34 : decode cX0_poledCells 34 = .ok (.getfield 15, 3) := by decide +kernel
theorem dX0_poledCells_37 : decode cX0_poledCells 37 = .ok (.iload_n 2, 1) := by decide +kernel
theorem dX0_poledCells_38 : decode cX0_poledCells 38 = .ok (.iaload, 1) := by decide +kernel
theorem dX0_poledCells_39 : decode cX0_poledCells 39 = .ok (.ishl, 1) := by decide +kernel
theorem dX0_poledCells_40 : decode cX0_poledCells 40 = .ok (.ior, 1) := by decide +kernel
theorem dX0_poledCells_41 : decode cX0_poledCells 41 = .ok (.istore_n 1, 1) := by decide +kernel
theorem dX0_poledCells_42 : decode cX0_poledCells 42 = .ok (.iinc 2 1, 3) := by decide +kernel
theorem dX0_poledCells_45 : decode cX0_poledCells 45 = .ok (.goto (-41), 3) := by decide +kernel
theorem dX0_poledCells_48 : decode cX0_poledCells 48 = .ok (.iload_n 1, 1) := by decide +kernel
theorem dX0_poledCells_49 : decode cX0_poledCells 49 = .ok (.invokestatic 61, 3) := by decide +kernel
theorem dX0_poledCells_52 : decode cX0_poledCells 52 = .ok (.ireturn, 1) := by decide +kernel
theorem dX1_init_0 : decode cX1_init 0 = .ok (.aload_n 0, 1) := by decide +kernel
theorem dX1_init_1 : decode cX1_init 1 = .ok (.invokespecial 3, 3) := by decide +kernel
theorem dX1_init_4 : decode cX1_init 4 = .ok (.aload_n 0, 1) := by decide +kernel
theorem dX1_init_5 : decode cX1_init 5 = .ok (.bipush 8, 2) := by decide +kernel
theorem dX1_init_7 : decode cX1_init 7 = .ok (.newarray .int, 2) := by decide +kernel
theorem dX1_init_9 : decode cX1_init 9 = .ok (.putfield 9, 3) := by decide +kernel
theorem dX1_init_12 : decode cX1_init 12 = .ok (.aload_n 0, 1) := by decide +kernel
theorem dX1_init_13 : decode cX1_init 13 = .ok (.bipush 8, 2) := by decide +kernel
theorem dX1_init_15 : decode cX1_init 15 = .ok (.newarray .int, 2) := by decide +kernel
theorem dX1_init_17 : decode cX1_init 17 = .ok (.putfield 15, 3) := by decide +kernel
theorem dX1_init_20 : decode cX1_init 20 = .ok (.return_, 1) := by decide +kernel
theorem dX1_add_0 : decode cX1_add 0 = .ok (.aload_n 0, 1) := by decide +kernel
theorem dX1_add_1 : decode cX1_add 1 = .ok (.getfield 18, 3) := by decide +kernel
theorem dX1_add_4 : decode cX1_add 4 = .ok (.ifCond .lt 42, 3) := by decide +kernel
theorem dX1_add_7 : decode cX1_add 7 = .ok (.aload_n 0, 1) := by decide +kernel
theorem dX1_add_8 : decode cX1_add 8 = .ok (.getfield 18, 3) := by decide +kernel
theorem dX1_add_11 : decode cX1_add 11 = .ok (.bipush 8, 2) := by decide +kernel
theorem dX1_add_13 : decode cX1_add 13 = .ok (.if_icmp .ge 33, 3) := by decide +kernel
theorem dX1_add_16 : decode cX1_add 16 = .ok (.aload_n 0, 1) := by decide +kernel
theorem dX1_add_17 : decode cX1_add 17 = .ok (.getfield 9, 3) := by decide +kernel
theorem dX1_add_20 : decode cX1_add 20 = .ok (.aload_n 0, 1) := by decide +kernel
theorem dX1_add_21 : decode cX1_add 21 = .ok (.getfield 18, 3) := by decide +kernel
theorem dX1_add_24 : decode cX1_add 24 = .ok (.iload_n 1, 1) := by decide +kernel
theorem dX1_add_25 : decode cX1_add 25 = .ok (.iastore, 1) := by decide +kernel
theorem dX1_add_26 : decode cX1_add 26 = .ok (.aload_n 0, 1) := by decide +kernel
theorem dX1_add_27 : decode cX1_add 27 = .ok (.getfield 15, 3) := by decide +kernel
theorem dX1_add_30 : decode cX1_add 30 = .ok (.aload_n 0, 1) := by decide +kernel
theorem dX1_add_31 : decode cX1_add 31 = .ok (.getfield 18, 3) := by decide +kernel
theorem dX1_add_34 : decode cX1_add 34 = .ok (.iload_n 2, 1) := by decide +kernel
theorem dX1_add_35 : decode cX1_add 35 = .ok (.iastore, 1) := by decide +kernel
theorem dX1_add_36 : decode cX1_add 36 = .ok (.aload_n 0, 1) := by decide +kernel
theorem dX1_add_37 : decode cX1_add 37 = .ok (.dup, 1) := by decide +kernel
theorem dX1_add_38 : decode cX1_add 38 = .ok (.getfield 18, 3) := by decide +kernel
theorem dX1_add_41 : decode cX1_add 41 = .ok (.iconst 1, 1) := by decide +kernel
theorem dX1_add_42 : decode cX1_add 42 = .ok (.iadd, 1) := by decide +kernel
theorem dX1_add_43 : decode cX1_add 43 = .ok (.putfield 18, 3) := by decide +kernel
theorem dX1_add_46 : decode cX1_add 46 = .ok (.return_, 1) := by decide +kernel
theorem dX1_allow_0 : decode cX1_allow 0 = .ok (.iconst 0, 1) := by decide +kernel
theorem dX1_allow_1 : decode cX1_allow 1 = .ok (.istore_n 3, 1) := by decide +kernel
theorem dX1_allow_2 : decode cX1_allow 2 = .ok (.iload_n 3, 1) := by decide +kernel
theorem dX1_allow_3 : decode cX1_allow 3 = .ok (.aload_n 0, 1) := by decide +kernel
theorem dX1_allow_4 : decode cX1_allow 4 = .ok (.getfield 18, 3) := by decide +kernel
theorem dX1_allow_7 : decode cX1_allow 7 = .ok (.if_icmp .ge 37, 3) := by decide +kernel
theorem dX1_allow_10 : decode cX1_allow 10 = .ok (.iload_n 3, 1) := by decide +kernel
theorem dX1_allow_11 : decode cX1_allow 11 = .ok (.bipush 8, 2) := by decide +kernel
theorem dX1_allow_13 : decode cX1_allow 13 = .ok (.if_icmp .ge 31, 3) := by decide +kernel
theorem dX1_allow_16 : decode cX1_allow 16 = .ok (.aload_n 0, 1) := by decide +kernel
theorem dX1_allow_17 : decode cX1_allow 17 = .ok (.getfield 9, 3) := by decide +kernel
theorem dX1_allow_20 : decode cX1_allow 20 = .ok (.iload_n 3, 1) := by decide +kernel
theorem dX1_allow_21 : decode cX1_allow 21 = .ok (.iaload, 1) := by decide +kernel
theorem dX1_allow_22 : decode cX1_allow 22 = .ok (.iload_n 1, 1) := by decide +kernel
theorem dX1_allow_23 : decode cX1_allow 23 = .ok (.if_icmp .ne 15, 3) := by decide +kernel
theorem dX1_allow_26 : decode cX1_allow 26 = .ok (.aload_n 0, 1) := by decide +kernel
theorem dX1_allow_27 : decode cX1_allow 27 = .ok (.getfield 15, 3) := by decide +kernel
theorem dX1_allow_30 : decode cX1_allow 30 = .ok (.iload_n 3, 1) := by decide +kernel
theorem dX1_allow_31 : decode cX1_allow 31 = .ok (.iaload, 1) := by decide +kernel
theorem dX1_allow_32 : decode cX1_allow 32 = .ok (.iload_n 2, 1) := by decide +kernel
theorem dX1_allow_33 : decode cX1_allow 33 = .ok (.if_icmp .eq 5, 3) := by decide +kernel
theorem dX1_allow_36 : decode cX1_allow 36 = .ok (.iconst 0, 1) := by decide +kernel
theorem dX1_allow_37 : decode cX1_allow 37 = .ok (.ireturn, 1) := by decide +kernel
theorem dX1_allow_38 : decode cX1_allow 38 = .ok (.iinc 3 1, 3) := by decide +kernel
theorem dX1_allow_41 : decode cX1_allow 41 = .ok (.goto (-39), 3) := by decide +kernel
theorem dX1_allow_44 : decode cX1_allow 44 = .ok (.iconst 1, 1) := by decide +kernel
theorem dX1_allow_45 : decode cX1_allow 45 = .ok (.ireturn, 1) := by decide +kernel
theorem dX2_init_0 : decode cX2_init 0 = .ok (.aload_n 0, 1) := by decide +kernel
theorem dX2_init_1 : decode cX2_init 1 = .ok (.invokespecial 3, 3) := by decide +kernel
theorem dX2_init_4 : decode cX2_init 4 = .ok (.aload_n 0, 1) := by decide +kernel
theorem dX2_init_5 : decode cX2_init 5 = .ok (.bipush 16, 2) := by decide +kernel
theorem dX2_init_7 : decode cX2_init 7 = .ok (.newarray .int, 2) := by decide +kernel
theorem dX2_init_9 : decode cX2_init 9 = .ok (.putfield 9, 3) := by decide +kernel
theorem dX2_init_12 : decode cX2_init 12 = .ok (.aload_n 0, 1) := by decide +kernel
theorem dX2_init_13 : decode cX2_init 13 = .ok (.bipush 16, 2) := by decide +kernel
theorem dX2_init_15 : decode cX2_init 15 = .ok (.newarray .int, 2) := by decide +kernel
theorem dX2_init_17 : decode cX2_init 17 = .ok (.putfield 15, 3) := by decide +kernel
theorem dX2_init_20 : decode cX2_init 20 = .ok (.aload_n 0, 1) := by decide +kernel
theorem dX2_init_21 : decode cX2_init 21 = .ok (.bipush 16, 2) := by decide +kernel
theorem dX2_init_23 : decode cX2_init 23 = .ok (.newarray .boolean, 2) := by decide +kernel
theorem dX2_init_25 : decode cX2_init 25 = .ok (.putfield 18, 3) := by decide +kernel
theorem dX2_init_28 : decode cX2_init 28 = .ok (.aload_n 0, 1) := by decide +kernel
theorem dX2_init_29 : decode cX2_init 29 = .ok (.bipush 16, 2) := by decide +kernel
theorem dX2_init_31 : decode cX2_init 31 = .ok (.newarray .boolean, 2) := by decide +kernel
theorem dX2_init_33 : decode cX2_init 33 = .ok (.putfield 22, 3) := by decide +kernel
theorem dX2_init_36 : decode cX2_init 36 = .ok (.return_, 1) := by decide +kernel
theorem dX2_isNone_0 : decode cX2_isNone 0 = .ok (.aload_n 0, 1) := by decide +kernel
theorem dX2_isNone_1 : decode cX2_isNone 1 = .ok (.getfield 25, 3) := by decide +kernel
theorem dX2_isNone_4 : decode cX2_isNone 4 = .ok (.ifCond .ne 7, 3) := by decide +kernel
theorem dX2_isNone_7 : decode cX2_isNone 7 = .ok (.iconst 1, 1) := by decide +kernel
theorem dX2_isNone_8 : decode cX2_isNone 8 = .ok (.goto 4, 3) := by decide +kernel
theorem dX2_isNone_11 : decode cX2_isNone 11 = .ok (.iconst 0, 1) := by decide +kernel
theorem dX2_isNone_12 : decode cX2_isNone 12 = .ok (.ireturn, 1) := by decide +kernel
theorem dX2_has_0 : decode cX2_has 0 = .ok (.iload_n 1, 1) := by decide +kernel
theorem dX2_has_1 : decode cX2_has 1 = .ok (.ifCond .lt 15, 3) := by decide +kernel
theorem dX2_has_4 : decode cX2_has 4 = .ok (.iload_n 1, 1) := by decide +kernel
theorem dX2_has_5 : decode cX2_has 5 = .ok (.aload_n 0, 1) := by decide +kernel
theorem dX2_has_6 : decode cX2_has 6 = .ok (.getfield 25, 3) := by decide +kernel
theorem dX2_has_9 : decode cX2_has 9 = .ok (.if_icmp .ge 7, 3) := by decide +kernel
theorem dX2_has_12 : decode cX2_has 12 = .ok (.iconst 1, 1) := by decide +kernel
theorem dX2_has_13 : decode cX2_has 13 = .ok (.goto 4, 3) := by decide +kernel
theorem dX2_has_16 : decode cX2_has 16 = .ok (.iconst 0, 1) := by decide +kernel
theorem dX2_has_17 : decode cX2_has 17 = .ok (.ireturn, 1) := by decide +kernel
theorem dX2_clear_0 : decode cX2_clear 0 = .ok (.aload_n 0, 1) := by decide +kernel
theorem dX2_clear_1 : decode cX2_clear 1 = .ok (.iconst 0, 1) := by decide +kernel
theorem dX2_clear_2 : decode cX2_clear 2 = .ok (.putfield 25, 3) := by decide +kernel
theorem dX2_clear_5 : decode cX2_clear 5 = .ok (.aload_n 0, 1) := by decide +kernel
theorem dX2_clear_6 : decode cX2_clear 6 = .ok (.iconst 0, 1) := by decide +kernel
theorem dX2_clear_7 : decode cX2_clear 7 = .ok (.putfield 29, 3) := by decide +kernel
theorem dX2_clear_10 : decode cX2_clear 10 = .ok (.return_, 1) := by decide +kernel
theorem dX2_add_0 : decode cX2_add 0 = .ok (.aload_n 0, 1) := by decide +kernel
theorem dX2_add_1 : decode cX2_add 1 = .ok (.getfield 25, 3) := by decide +kernel
theorem dX2_add_4 : decode cX2_add 4 = .ok (.bipush 16, 2) := by decide +kernel
theorem dX2_add_6 : decode cX2_add 6 = .ok (.if_icmp .ge 53, 3) := by decide +kernel
theorem dX2_add_9 : decode cX2_add 9 = .ok (.aload_n 0, 1) := by decide +kernel
theorem dX2_add_10 : decode cX2_add 10 = .ok (.getfield 9, 3) := by decide +kernel
theorem dX2_add_13 : decode cX2_add 13 = .ok (.aload_n 0, 1) := by decide +kernel
theorem dX2_add_14 : decode cX2_add 14 = .ok (.getfield 25, 3) := by decide +kernel
theorem dX2_add_17 : decode cX2_add 17 = .ok (.iload_n 1, 1) := by decide +kernel
theorem dX2_add_18 : decode cX2_add 18 = .ok (.iastore, 1) := by decide +kernel
theorem dX2_add_19 : decode cX2_add 19 = .ok (.aload_n 0, 1) := by decide +kernel
theorem dX2_add_20 : decode cX2_add 20 = .ok (.getfield 15, 3) := by decide +kernel
theorem dX2_add_23 : decode cX2_add 23 = .ok (.aload_n 0, 1) := by decide +kernel
theorem dX2_add_24 : decode cX2_add 24 = .ok (.getfield 25, 3) := by decide +kernel
theorem dX2_add_27 : decode cX2_add 27 = .ok (.iconst 0, 1) := by decide +kernel
theorem dX2_add_28 : decode cX2_add 28 = .ok (.iastore, 1) := by decide +kernel
theorem dX2_add_29 : decode cX2_add 29 = .ok (.aload_n 0, 1) := by decide +kernel
theorem dX2_add_30 : decode cX2_add 30 = .ok (.getfield 18, 3) := by decide +kernel
theorem dX2_add_33 : decode cX2_add 33 = .ok (.aload_n 0, 1) := by decide +kernel
theorem dX2_add_34 : decode cX2_add 34 = .ok (.getfield 25, 3) := by decide +kernel
theorem dX2_add_37 : decode cX2_add 37 = .ok (.iload_n 2, 1) := by decide +kernel
theorem dX2_add_38 : decode cX2_add 38 = .ok (.bastore, 1) := by decide +kernel
theorem dX2_add_39 : decode cX2_add 39 = .ok (.aload_n 0, 1) := by decide +kernel
theorem dX2_add_40 : decode cX2_add 40 = .ok (.getfield 22, 3) := by decide +kernel
theorem dX2_add_43 : decode cX2_add 43 = .ok (.aload_n 0, 1) := by decide +kernel
theorem dX2_add_44 : decode cX2_add 44 = .ok (.getfield 25, 3) := by decide +kernel
theorem dX2_add_47 : decode cX2_add 47 = .ok (.iconst 0, 1) := by decide +kernel
theorem dX2_add_48 : decode cX2_add 48 = .ok (.bastore, 1) := by decide +kernel
theorem dX2_add_49 : decode cX2_add 49 = .ok (.aload_n 0, 1) := by decide +kernel
theorem dX2_add_50 : decode cX2_add 50 = .ok (.dup, 1) := by decide +kernel
theorem dX2_add_51 : decode cX2_add 51 = .ok (.getfield 25, 3) := by decide +kernel
theorem dX2_add_54 : decode cX2_add 54 = .ok (.iconst 1, 1) := by decide +kernel
theorem dX2_add_55 : decode cX2_add 55 = .ok (.iadd, 1) := by decide +kernel
theorem dX2_add_56 : decode cX2_add 56 = .ok (.putfield 25, 3) := by decide +kernel
theorem dX2_add_59 : decode cX2_add 59 = .ok (.return_, 1) := by decide +kernel
set_option maxRecDepth 20000 in
theorem ggX2_setMud_X2_has : GoodIn wsX2_setMud wsX2_has := goodIn_r _ [6, 7, 8, 9, 10, 11, 12, 13] (by decide +kernel) (by decide +kernel)
set_option maxRecDepth 20000 in
theorem gX2_setMud_X2_has : GoodIn wsX2_setMud (wsV RX2 32 RX2 yX2_has wsX2_has) := goodIn_app (goodIn_of _ (by decide +kernel)) ggX2_setMud_X2_has
theorem dX2_setMud_0 : decode cX2_setMud 0 = .ok (.aload_n 0, 1) := by decide +kernel
theorem dX2_setMud_1 : decode cX2_setMud 1 = .ok (.iload_n 1, 1) := by decide +kernel
theorem dX2_setMud_2 : decode cX2_setMud 2 = .ok (.invokevirtual 32, 3) := by decide +kernel
theorem dX2_setMud_5 : decode cX2_setMud 5 = .ok (.ifCond .eq 10, 3) := by decide +kernel
theorem dX2_setMud_8 : decode cX2_setMud 8 = .ok (.aload_n 0, 1) := by decide +kernel
theorem dX2_setMud_9 : decode cX2_setMud 9 = .ok (.getfield 15, 3) := by decide +kernel
theorem dX2_setMud_12 : decode cX2_setMud 12 = .ok (.iload_n 1, 1) := by decide +kernel
theorem dX2_setMud_13 : decode cX2_setMud 13 = .ok (.iload_n 2, 1) := by decide +kernel
theorem dX2_setMud_14 : decode cX2_setMud 14 = .ok (.iastore, 1) := by decide +kernel
theorem dX2_setMud_15 : decode cX2_setMud 15 = .ok (.return_, 1) := by decide +kernel
set_option maxRecDepth 20000 in
theorem ggX2_setBridged_X2_has : GoodIn wsX2_setBridged wsX2_has := goodIn_r _ [6, 7, 8, 9, 10, 11, 12, 13] (by decide +kernel) (by decide +kernel)
set_option maxRecDepth 20000 in
theorem gX2_setBridged_X2_has : GoodIn wsX2_setBridged (wsV RX2 32 RX2 yX2_has wsX2_has) := goodIn_app (goodIn_of _ (by decide +kernel)) ggX2_setBridged_X2_has
theorem dX2_setBridged_0 : decode cX2_setBridged 0 = .ok (.aload_n 0, 1) := by decide +kernel
theorem dX2_setBridged_1 : decode cX2_setBridged 1 = .ok (.iload_n 1, 1) := by decide +kernel
theorem dX2_setBridged_2 : decode cX2_setBridged 2 = .ok (.invokevirtual 32, 3) := by decide +kernel
theorem dX2_setBridged_5 : decode cX2_setBridged 5 = .ok (.ifCond .eq 10, 3) := by decide +kernel
theorem dX2_setBridged_8 : decode cX2_setBridged 8 = .ok (.aload_n 0, 1) := by decide +kernel
theorem dX2_setBridged_9 : decode cX2_setBridged 9 = .ok (.getfield 22, 3) := by decide +kernel
theorem dX2_setBridged_12 : decode cX2_setBridged 12 = .ok (.iload_n 1, 1) := by decide +kernel
theorem dX2_setBridged_13 : decode cX2_setBridged 13 = .ok (.iload_n 2, 1) := by decide +kernel
theorem dX2_setBridged_14 : decode cX2_setBridged 14 = .ok (.bastore, 1) := by decide +kernel
theorem dX2_setBridged_15 : decode cX2_setBridged 15 = .ok (.return_, 1) := by decide +kernel
set_option maxRecDepth 20000 in
theorem ggX2_kindOf_X2_has : GoodIn wsX2_kindOf wsX2_has := goodIn_r _ [6, 7, 8, 9, 10, 11, 12, 13] (by decide +kernel) (by decide +kernel)
set_option maxRecDepth 20000 in
theorem gX2_kindOf_X2_has : GoodIn wsX2_kindOf (wsV RX2 32 RX2 yX2_has wsX2_has) := goodIn_app (goodIn_of _ (by decide +kernel)) ggX2_kindOf_X2_has
theorem dX2_kindOf_0 : decode cX2_kindOf 0 = .ok (.aload_n 0, 1) := by decide +kernel
theorem dX2_kindOf_1 : decode cX2_kindOf 1 = .ok (.iload_n 1, 1) := by decide +kernel
theorem dX2_kindOf_2 : decode cX2_kindOf 2 = .ok (.invokevirtual 32, 3) := by decide +kernel
theorem dX2_kindOf_5 : decode cX2_kindOf 5 = .ok (.ifCond .eq 12, 3) := by decide +kernel
theorem dX2_kindOf_8 : decode cX2_kindOf 8 = .ok (.aload_n 0, 1) := by decide +kernel
theorem dX2_kindOf_9 : decode cX2_kindOf 9 = .ok (.getfield 9, 3) := by decide +kernel
theorem dX2_kindOf_12 : decode cX2_kindOf 12 = .ok (.iload_n 1, 1) := by decide +kernel
theorem dX2_kindOf_13 : decode cX2_kindOf 13 = .ok (.iaload, 1) := by decide +kernel
theorem dX2_kindOf_14 : decode cX2_kindOf 14 = .ok (.goto 4, 3) := by decide +kernel
theorem dX2_kindOf_17 : decode cX2_kindOf 17 = .ok (.iconst 0, 1) := by decide +kernel
theorem dX2_kindOf_18 : decode cX2_kindOf 18 = .ok (.ireturn, 1) := by decide +kernel
set_option maxRecDepth 20000 in
theorem ggX2_mudOf_X2_has : GoodIn wsX2_mudOf wsX2_has := goodIn_r _ [6, 7, 8, 9, 10, 11, 12, 13] (by decide +kernel) (by decide +kernel)
set_option maxRecDepth 20000 in
theorem gX2_mudOf_X2_has : GoodIn wsX2_mudOf (wsV RX2 32 RX2 yX2_has wsX2_has) := goodIn_app (goodIn_of _ (by decide +kernel)) ggX2_mudOf_X2_has
theorem dX2_mudOf_0 : decode cX2_mudOf 0 = .ok (.aload_n 0, 1) := by decide +kernel
theorem dX2_mudOf_1 : decode cX2_mudOf 1 = .ok (.iload_n 1, 1) := by decide +kernel
theorem dX2_mudOf_2 : decode cX2_mudOf 2 = .ok (.invokevirtual 32, 3) := by decide +kernel
theorem dX2_mudOf_5 : decode cX2_mudOf 5 = .ok (.ifCond .eq 12, 3) := by decide +kernel
theorem dX2_mudOf_8 : decode cX2_mudOf 8 = .ok (.aload_n 0, 1) := by decide +kernel
theorem dX2_mudOf_9 : decode cX2_mudOf 9 = .ok (.getfield 15, 3) := by decide +kernel
theorem dX2_mudOf_12 : decode cX2_mudOf 12 = .ok (.iload_n 1, 1) := by decide +kernel
theorem dX2_mudOf_13 : decode cX2_mudOf 13 = .ok (.iaload, 1) := by decide +kernel
theorem dX2_mudOf_14 : decode cX2_mudOf 14 = .ok (.goto 4, 3) := by decide +kernel
theorem dX2_mudOf_17 : decode cX2_mudOf 17 = .ok (.iconst 0, 1) := by decide +kernel
theorem dX2_mudOf_18 : decode cX2_mudOf 18 = .ok (.ireturn, 1) := by decide +kernel
set_option maxRecDepth 20000 in
theorem ggX2_isDeep_X2_has : GoodIn wsX2_isDeep wsX2_has := goodIn_r _ [6, 7, 8, 9, 10, 11, 12, 13] (by decide +kernel) (by decide +kernel)
set_option maxRecDepth 20000 in
theorem gX2_isDeep_X2_has : GoodIn wsX2_isDeep (wsV RX2 32 RX2 yX2_has wsX2_has) := goodIn_app (goodIn_of _ (by decide +kernel)) ggX2_isDeep_X2_has
theorem dX2_isDeep_0 : decode cX2_isDeep 0 = .ok (.aload_n 0, 1) := by decide +kernel
theorem dX2_isDeep_1 : decode cX2_isDeep 1 = .ok (.iload_n 1, 1) := by decide +kernel
theorem dX2_isDeep_2 : decode cX2_isDeep 2 = .ok (.invokevirtual 32, 3) := by decide +kernel
theorem dX2_isDeep_5 : decode cX2_isDeep 5 = .ok (.ifCond .eq 16, 3) := by decide +kernel
theorem dX2_isDeep_8 : decode cX2_isDeep 8 = .ok (.aload_n 0, 1) := by decide +kernel
theorem dX2_isDeep_9 : decode cX2_isDeep 9 = .ok (.getfield 18, 3) := by decide +kernel
theorem dX2_isDeep_12 : decode cX2_isDeep 12 = .ok (.iload_n 1, 1) := by decide +kernel
theorem dX2_isDeep_13 : decode cX2_isDeep 13 = .ok (.baload, 1) := by decide +kernel
theorem dX2_isDeep_14 : decode cX2_isDeep 14 = .ok (.ifCond .eq 7, 3) := by decide +kernel
theorem dX2_isDeep_17 : decode cX2_isDeep 17 = .ok (.iconst 1, 1) := by decide +kernel
theorem dX2_isDeep_18 : decode cX2_isDeep 18 = .ok (.goto 4, 3) := by decide +kernel
theorem dX2_isDeep_21 : decode cX2_isDeep 21 = .ok (.iconst 0, 1) := by decide +kernel
theorem dX2_isDeep_22 : decode cX2_isDeep 22 = .ok (.ireturn, 1) := by decide +kernel
set_option maxRecDepth 20000 in
theorem ggX2_isBridged_X2_has : GoodIn wsX2_isBridged wsX2_has := goodIn_r _ [6, 7, 8, 9, 10, 11, 12, 13] (by decide +kernel) (by decide +kernel)
set_option maxRecDepth 20000 in
theorem gX2_isBridged_X2_has : GoodIn wsX2_isBridged (wsV RX2 32 RX2 yX2_has wsX2_has) := goodIn_app (goodIn_of _ (by decide +kernel)) ggX2_isBridged_X2_has
theorem dX2_isBridged_0 : decode cX2_isBridged 0 = .ok (.aload_n 0, 1) := by decide +kernel
theorem dX2_isBridged_1 : decode cX2_isBridged 1 = .ok (.iload_n 1, 1) := by decide +kernel
theorem dX2_isBridged_2 : decode cX2_isBridged 2 = .ok (.invokevirtual 32, 3) := by decide +kernel
theorem dX2_isBridged_5 : decode cX2_isBridged 5 = .ok (.ifCond .eq 16, 3) := by decide +kernel
theorem dX2_isBridged_8 : decode cX2_isBridged 8 = .ok (.aload_n 0, 1) := by decide +kernel
theorem dX2_isBridged_9 : decode cX2_isBridged 9 = .ok (.getfield 22, 3) := by decide +kernel
theorem dX2_isBridged_12 : decode cX2_isBridged 12 = .ok (.iload_n 1, 1) := by decide +kernel
theorem dX2_isBridged_13 : decode cX2_isBridged 13 = .ok (.baload, 1) := by decide +kernel
theorem dX2_isBridged_14 : decode cX2_isBridged 14 = .ok (.ifCond .eq 7, 3) := by decide +kernel
theorem dX2_isBridged_17 : decode cX2_isBridged 17 = .ok (.iconst 1, 1) := by decide +kernel
theorem dX2_isBridged_18 : decode cX2_isBridged 18 = .ok (.goto 4, 3) := by decide +kernel
theorem dX2_isBridged_21 : decode cX2_isBridged 21 = .ok (.iconst 0, 1) := by decide +kernel
theorem dX2_isBridged_22 : decode cX2_isBridged 22 = .ok (.ireturn, 1) := by decide +kernel
set_option maxRecDepth 20000 in
theorem ggX2_bridgeCount_X2_isBridged : GoodIn wsX2_bridgeCount wsX2_isBridged := goodIn_r _ [6, 7, 8, 9, 10, 5, 11, 1, 15, 16, 17, 18, 19, 20] (by decide +kernel) (by decide +kernel)
set_option maxRecDepth 20000 in
theorem gX2_bridgeCount_X2_isBridged : GoodIn wsX2_bridgeCount (wsV RX2 36 RX2 yX2_isBridged wsX2_isBridged) := goodIn_app (goodIn_of _ (by decide +kernel)) ggX2_bridgeCount_X2_isBridged
set_option maxRecDepth 20000 in
theorem ggX2_bridgeCount_X7_asBit : GoodIn wsX2_bridgeCount wsX7_asBit := goodIn_r _ [14] (by decide +kernel) (by decide +kernel)
set_option maxRecDepth 20000 in
theorem gX2_bridgeCount_X7_asBit_n39 : GoodIn wsX2_bridgeCount (wsX7_asBit) := ggX2_bridgeCount_X7_asBit
theorem dX2_bridgeCount_0 : decode cX2_bridgeCount 0 = .ok (.iconst 0, 1) := by decide +kernel
theorem dX2_bridgeCount_1 : decode cX2_bridgeCount 1 = .ok (.istore_n 1, 1) := by decide +kernel
theorem dX2_bridgeCount_2 : decode cX2_bridgeCount 2 = .ok (.iconst 0, 1) := by decide +kernel
theorem dX2_bridgeCount_3 : decode cX2_bridgeCount 3 = .ok (.istore_n 2, 1) := by decide +kernel
theorem dX2_bridgeCount_4 : decode cX2_bridgeCount 4 = .ok (.iload_n 2, 1) := by decide +kernel
theorem dX2_bridgeCount_5 : decode cX2_bridgeCount 5 = .ok (.aload_n 0, 1) := by decide +kernel
theorem dX2_bridgeCount_6 : decode cX2_bridgeCount 6 = .ok (.getfield 25, 3) := by decide +kernel
theorem dX2_bridgeCount_9 : decode cX2_bridgeCount 9 = .ok (.if_icmp .ge 20, 3) := by decide +kernel
theorem dX2_bridgeCount_12 : decode cX2_bridgeCount 12 = .ok (.iload_n 1, 1) := by decide +kernel
theorem dX2_bridgeCount_13 : decode cX2_bridgeCount 13 = .ok (.aload_n 0, 1) := by decide +kernel
theorem dX2_bridgeCount_14 : decode cX2_bridgeCount 14 = .ok (.iload_n 2, 1) := by decide +kernel
theorem dX2_bridgeCount_15 : decode cX2_bridgeCount 15 = .ok (.invokevirtual 36, 3) := by decide +kernel
theorem dX2_bridgeCount_18 : decode cX2_bridgeCount 18 = .ok (.invokestatic 39, 3) := by decide +kernel
theorem dX2_bridgeCount_21 : decode cX2_bridgeCount 21 = .ok (.iadd, 1) := by decide +kernel
theorem dX2_bridgeCount_22 : decode cX2_bridgeCount 22 = .ok (.istore_n 1, 1) := by decide +kernel
theorem dX2_bridgeCount_23 : decode cX2_bridgeCount 23 = .ok (.iinc 2 1, 3) := by decide +kernel
theorem dX2_bridgeCount_26 : decode cX2_bridgeCount 26 = .ok (.goto (-22), 3) := by decide +kernel
theorem dX2_bridgeCount_29 : decode cX2_bridgeCount 29 = .ok (.iload_n 1, 1) := by decide +kernel
theorem dX2_bridgeCount_30 : decode cX2_bridgeCount 30 = .ok (.ireturn, 1) := by decide +kernel
set_option maxRecDepth 20000 in
theorem ggX2_holdsIn_X2_kindOf : GoodIn wsX2_holdsIn wsX2_kindOf := goodIn_r _ [5, 6, 7, 8, 9, 4, 10, 11, 26, 27, 28, 29, 30, 31] (by decide +kernel) (by decide +kernel)
set_option maxRecDepth 20000 in
theorem gX2_holdsIn_X2_kindOf : GoodIn wsX2_holdsIn (wsV RX2 43 RX2 yX2_kindOf wsX2_kindOf) := goodIn_app (goodIn_of _ (by decide +kernel)) ggX2_holdsIn_X2_kindOf
set_option maxRecDepth 20000 in
theorem ggX2_holdsIn_X2_mudOf : GoodIn wsX2_holdsIn wsX2_mudOf := goodIn_r _ [15, 16, 7, 8, 9, 4, 10, 11, 26, 27, 28, 29, 30, 31] (by decide +kernel) (by decide +kernel)
set_option maxRecDepth 20000 in
theorem gX2_holdsIn_X2_mudOf : GoodIn wsX2_holdsIn (wsV RX2 47 RX2 yX2_mudOf wsX2_mudOf) := goodIn_app (goodIn_of _ (by decide +kernel)) ggX2_holdsIn_X2_mudOf
set_option maxRecDepth 20000 in
theorem ggX2_holdsIn_X2_holdsIf : GoodIn wsX2_holdsIn wsX2_holdsIf := goodIn_r _ [20, 21, 22, 23, 24, 25, 7, 8, 9, 4, 10, 11, 26, 27, 28, 29, 30, 31] (by decide +kernel) (by decide +kernel)
set_option maxRecDepth 20000 in
theorem gX2_holdsIn_X2_holdsIf : GoodIn wsX2_holdsIn (wsV RX2 50 RX2 yX2_holdsIf wsX2_holdsIf) := goodIn_app (goodIn_of _ (by decide +kernel)) ggX2_holdsIn_X2_holdsIf
theorem dX2_holdsIn_0 : decode cX2_holdsIn 0 = .ok (.aload_n 0, 1) := by decide +kernel
theorem dX2_holdsIn_1 : decode cX2_holdsIn 1 = .ok (.iload_n 1, 1) := by decide +kernel
theorem dX2_holdsIn_2 : decode cX2_holdsIn 2 = .ok (.aload_n 0, 1) := by decide +kernel
theorem dX2_holdsIn_3 : decode cX2_holdsIn 3 = .ok (.iload_n 1, 1) := by decide +kernel
theorem dX2_holdsIn_4 : decode cX2_holdsIn 4 = .ok (.invokevirtual 43, 3) := by decide +kernel
theorem dX2_holdsIn_7 : decode cX2_holdsIn 7 = .ok (.aload_n 0, 1) := by decide +kernel
theorem dX2_holdsIn_8 : decode cX2_holdsIn 8 = .ok (.iload_n 1, 1) := by decide +kernel
theorem dX2_holdsIn_9 : decode cX2_holdsIn 9 = .ok (.invokevirtual 47, 3) := by decide +kernel
theorem dX2_holdsIn_12 : decode cX2_holdsIn 12 = .ok (.invokevirtual 50, 3) := by decide +kernel
theorem dX2_holdsIn_15 : decode cX2_holdsIn 15 = .ok (.ireturn, 1) := by decide +kernel
set_option maxRecDepth 20000 in
theorem ggX2_holdsIf_X2_has : GoodIn wsX2_holdsIf wsX2_has := goodIn_r _ [10, 11, 12, 13, 14, 15, 16, 17] (by decide +kernel) (by decide +kernel)
set_option maxRecDepth 20000 in
theorem gX2_holdsIf_X2_has : GoodIn wsX2_holdsIf (wsV RX2 32 RX2 yX2_has wsX2_has) := goodIn_app (goodIn_of _ (by decide +kernel)) ggX2_holdsIf_X2_has
theorem dX2_holdsIf_0 : decode cX2_holdsIf 0 = .ok (.aload_n 0, 1) := by decide +kernel
theorem dX2_holdsIf_1 : decode cX2_holdsIf 1 = .ok (.iload_n 1, 1) := by decide +kernel
theorem dX2_holdsIf_2 : decode cX2_holdsIf 2 = .ok (.invokevirtual 32, 3) := by decide +kernel
theorem dX2_holdsIf_5 : decode cX2_holdsIf 5 = .ok (.ifCond .eq 12, 3) := by decide +kernel
theorem dX2_holdsIf_8 : decode cX2_holdsIf 8 = .ok (.aload_n 0, 1) := by decide +kernel
theorem dX2_holdsIf_9 : decode cX2_holdsIf 9 = .ok (.getfield 18, 3) := by decide +kernel
theorem dX2_holdsIf_12 : decode cX2_holdsIf 12 = .ok (.iload_n 1, 1) := by decide +kernel
theorem dX2_holdsIf_13 : decode cX2_holdsIf 13 = .ok (.baload, 1) := by decide +kernel
theorem dX2_holdsIf_14 : decode cX2_holdsIf 14 = .ok (.ifCond .eq 5, 3) := by decide +kernel
theorem dX2_holdsIf_17 : decode cX2_holdsIf 17 = .ok (.iconst 0, 1) := by decide +kernel
theorem dX2_holdsIf_18 : decode cX2_holdsIf 18 = .ok (.ireturn, 1) := by decide +kernel
theorem dX2_holdsIf_19 : decode cX2_holdsIf 19 = .ok (.iload_n 2, 1) := by decide +kernel
theorem dX2_holdsIf_20 : decode cX2_holdsIf 20 = .ok (.lookupswitch 48 #[(1, 39), (2, 28)], 28) := by decide +kernel
theorem dX2_holdsIf_48 : decode cX2_holdsIf 48 = .ok (.iconst 2, 1) := by decide +kernel
theorem dX2_holdsIf_49 : decode cX2_holdsIf 49 = .ok (.iload_n 3, 1) := by decide +kernel
theorem dX2_holdsIf_50 : decode cX2_holdsIf 50 = .ok (.iconst 1, 1) := by decide +kernel
theorem dX2_holdsIf_51 : decode cX2_holdsIf 51 = .ok (.iadd, 1) := by decide +kernel
theorem dX2_holdsIf_52 : decode cX2_holdsIf 52 = .ok (.imul, 1) := by decide +kernel
theorem dX2_holdsIf_53 : decode cX2_holdsIf 53 = .ok (.bipush 9, 2) := by decide +kernel
theorem dX2_holdsIf_55 : decode cX2_holdsIf 55 = .ok (.invokestatic 54, 3) := by decide +kernel
theorem dX2_holdsIf_58 : decode cX2_holdsIf 58 = .ok (.ireturn, 1) := by decide +kernel
theorem dX2_holdsIf_59 : decode cX2_holdsIf 59 = .ok (.iload_n 3, 1) := by decide +kernel
theorem dX2_holdsIf_60 : decode cX2_holdsIf 60 = .ok (.iconst 1, 1) := by decide +kernel
theorem dX2_holdsIf_61 : decode cX2_holdsIf 61 = .ok (.iadd, 1) := by decide +kernel
theorem dX2_holdsIf_62 : decode cX2_holdsIf 62 = .ok (.bipush 9, 2) := by decide +kernel
theorem dX2_holdsIf_64 : decode cX2_holdsIf 64 = .ok (.invokestatic 54, 3) := by decide +kernel
theorem dX2_holdsIf_67 : decode cX2_holdsIf 67 = .ok (.ireturn, 1) := by decide +kernel
theorem dX2_holdsIf_68 : decode cX2_holdsIf 68 = .ok (.iload_n 3, 1) := by decide +kernel
theorem dX2_holdsIf_69 : decode cX2_holdsIf 69 = .ok (.bipush 9, 2) := by decide +kernel
theorem dX2_holdsIf_71 : decode cX2_holdsIf 71 = .ok (.invokestatic 54, 3) := by decide +kernel
theorem dX2_holdsIf_74 : decode cX2_holdsIf 74 = .ok (.ireturn, 1) := by decide +kernel
theorem dX2_start_0 : decode cX2_start 0 = .ok (.aload_n 0, 1) := by decide +kernel
theorem dX2_start_1 : decode cX2_start 1 = .ok (.getfield 29, 3) := by decide +kernel
theorem dX2_start_4 : decode cX2_start 4 = .ok (.ireturn, 1) := by decide +kernel
theorem dX2_spots_0 : decode cX2_spots 0 = .ok (.aload_n 0, 1) := by decide +kernel
theorem dX2_spots_1 : decode cX2_spots 1 = .ok (.getfield 25, 3) := by decide +kernel
theorem dX2_spots_4 : decode cX2_spots 4 = .ok (.iconst 4, 1) := by decide +kernel
theorem dX2_spots_5 : decode cX2_spots 5 = .ok (.imul, 1) := by decide +kernel
theorem dX2_spots_6 : decode cX2_spots 6 = .ok (.ireturn, 1) := by decide +kernel
theorem dX2_tea_0 : decode cX2_tea 0 = .ok (.aload_n 0, 1) := by decide +kernel
theorem dX2_tea_1 : decode cX2_tea 1 = .ok (.getfield 25, 3) := by decide +kernel
theorem dX2_tea_4 : decode cX2_tea 4 = .ok (.iconst 1, 1) := by decide +kernel
theorem dX2_tea_5 : decode cX2_tea 5 = .ok (.isub, 1) := by decide +kernel
theorem dX2_tea_6 : decode cX2_tea 6 = .ok (.ireturn, 1) := by decide +kernel
set_option maxRecDepth 20000 in
theorem ggX2_isAtTea_X7_cellOf : GoodIn wsX2_isAtTea wsX7_cellOf := goodIn_r _ [3] (by decide +kernel) (by decide +kernel)
set_option maxRecDepth 20000 in
theorem gX2_isAtTea_X7_cellOf_n60 : GoodIn wsX2_isAtTea (wsX7_cellOf) := ggX2_isAtTea_X7_cellOf
set_option maxRecDepth 20000 in
theorem ggX2_isAtTea_X2_tea : GoodIn wsX2_isAtTea wsX2_tea := goodIn_r _ [8, 9, 10, 11, 12, 13, 14, 15] (by decide +kernel) (by decide +kernel)
set_option maxRecDepth 20000 in
theorem gX2_isAtTea_X2_tea : GoodIn wsX2_isAtTea (wsV RX2 63 RX2 yX2_tea wsX2_tea) := goodIn_app (goodIn_of _ (by decide +kernel)) ggX2_isAtTea_X2_tea
theorem dX2_isAtTea_0 : decode cX2_isAtTea 0 = .ok (.iload_n 1, 1) := by decide +kernel
theorem dX2_isAtTea_1 : decode cX2_isAtTea 1 = .ok (.invokestatic 60, 3) := by decide +kernel
theorem dX2_isAtTea_4 : decode cX2_isAtTea 4 = .ok (.aload_n 0, 1) := by decide +kernel
theorem dX2_isAtTea_5 : decode cX2_isAtTea 5 = .ok (.invokevirtual 63, 3) := by decide +kernel
theorem dX2_isAtTea_8 : decode cX2_isAtTea 8 = .ok (.if_icmp .ne 7, 3) := by decide +kernel
theorem dX2_isAtTea_11 : decode cX2_isAtTea 11 = .ok (.iconst 1, 1) := by decide +kernel
theorem dX2_isAtTea_12 : decode cX2_isAtTea 12 = .ok (.goto 4, 3) := by decide +kernel
theorem dX2_isAtTea_15 : decode cX2_isAtTea 15 = .ok (.iconst 0, 1) := by decide +kernel
theorem dX2_isAtTea_16 : decode cX2_isAtTea 16 = .ok (.ireturn, 1) := by decide +kernel
set_option maxRecDepth 20000 in
theorem ggX2_after_X7_cellOf : GoodIn wsX2_after wsX7_cellOf := goodIn_r _ [7] (by decide +kernel) (by decide +kernel)
set_option maxRecDepth 20000 in
theorem gX2_after_X7_cellOf_n60 : GoodIn wsX2_after (wsX7_cellOf) := ggX2_after_X7_cellOf
set_option maxRecDepth 20000 in
theorem ggX2_after_X2_tea : GoodIn wsX2_after wsX2_tea := goodIn_r _ [12, 13, 36, 37, 38, 39, 40, 41] (by decide +kernel) (by decide +kernel)
set_option maxRecDepth 20000 in
theorem gX2_after_X2_tea : GoodIn wsX2_after (wsV RX2 63 RX2 yX2_tea wsX2_tea) := goodIn_app (goodIn_of _ (by decide +kernel)) ggX2_after_X2_tea
set_option maxRecDepth 20000 in
theorem ggX2_after_X2_isDeep : GoodIn wsX2_after wsX2_isDeep := goodIn_r _ [17, 18, 19, 20, 21, 11, 22, 13, 36, 37, 38, 39, 40, 41] (by decide +kernel) (by decide +kernel)
set_option maxRecDepth 20000 in
theorem gX2_after_X2_isDeep : GoodIn wsX2_after (wsV RX2 67 RX2 yX2_isDeep wsX2_isDeep) := goodIn_app (goodIn_of _ (by decide +kernel)) ggX2_after_X2_isDeep
set_option maxRecDepth 20000 in
theorem ggX2_after_X7_paceOf : GoodIn wsX2_after wsX7_paceOf := goodIn_r _ [24] (by decide +kernel) (by decide +kernel)
set_option maxRecDepth 20000 in
theorem gX2_after_X7_paceOf_n70 : GoodIn wsX2_after (wsX7_paceOf) := ggX2_after_X7_paceOf
set_option maxRecDepth 20000 in
theorem ggX2_after_X2_paceAfter : GoodIn wsX2_after wsX2_paceAfter := goodIn_r _ [27, 1, 2, 3, 4, 28, 29, 30] (by decide +kernel) (by decide +kernel)
set_option maxRecDepth 20000 in
theorem gX2_after_X2_paceAfter : GoodIn wsX2_after (va_wsS RX2 73 yX2_paceAfter wsX2_paceAfter) := goodIn_app (goodIn_of _ (by decide +kernel)) ggX2_after_X2_paceAfter
set_option maxRecDepth 20000 in
theorem ggX2_after_X2_hasBridgeWithin : GoodIn wsX2_after wsX2_hasBridgeWithin := goodIn_r _ [34, 28, 29, 3, 30, 13, 35, 36, 37, 38, 39, 40, 41] (by decide +kernel) (by decide +kernel)
set_option maxRecDepth 20000 in
theorem gX2_after_X2_hasBridgeWithin : GoodIn wsX2_after (wsV RX2 76 RX2 yX2_hasBridgeWithin wsX2_hasBridgeWithin) := goodIn_app (goodIn_of _ (by decide +kernel)) ggX2_after_X2_hasBridgeWithin
theorem dX2_after_0 : decode cX2_after 0 = .ok (.iload_n 1, 1) := by decide +kernel
theorem dX2_after_1 : decode cX2_after 1 = .ok (.invokestatic 60, 3) := by decide +kernel
theorem dX2_after_4 : decode cX2_after 4 = .ok (.istore_n 3, 1) := by decide +kernel
theorem dX2_after_5 : decode cX2_after 5 = .ok (.iload_n 2, 1) := by decide +kernel
theorem dX2_after_6 : decode cX2_after 6 = .ok (.ifCond .eq 8, 3) := by decide +kernel
theorem dX2_after_9 : decode cX2_after 9 = .ok (.iload_n 2, 1) := by decide +kernel
theorem dX2_after_10 : decode cX2_after 10 = .ok (.iconst 2, 1) := by decide +kernel
theorem dX2_after_11 : decode cX2_after 11 = .ok (.if_icmp .ne 7, 3) := by decide +kernel
theorem dX2_after_14 : decode cX2_after 14 = .ok (.iconst 1, 1) := by decide +kernel
theorem dX2_after_15 : decode cX2_after 15 = .ok (.goto 4, 3) := by decide +kernel
theorem dX2_after_18 : decode cX2_after 18 = .ok (.iconst 0, 1) := by decide +kernel
theorem dX2_after_19 : decode cX2_after 19 = .ok (.istore 4, 2) := by decide +kernel
theorem dX2_after_21 : decode cX2_after 21 = .ok (.iload_n 1, 1) := by decide +kernel
theorem dX2_after_22 : decode cX2_after 22 = .ok (.ifCond .lt 24, 3) := by decide +kernel
theorem dX2_after_25 : decode cX2_after 25 = .ok (.iload_n 3, 1) := by decide +kernel
theorem dX2_after_26 : decode cX2_after 26 = .ok (.aload_n 0, 1) := by decide +kernel
theorem dX2_after_27 : decode cX2_after 27 = .ok (.invokevirtual 63, 3) := by decide +kernel
theorem dX2_after_30 : decode cX2_after 30 = .ok (.if_icmp .ge 16, 3) := by decide +kernel
theorem dX2_after_33 : decode cX2_after 33 = .ok (.iload 4, 2) := by decide +kernel
theorem dX2_after_35 : decode cX2_after 35 = .ok (.ifCond .eq 13, 3) := by decide +kernel
theorem dX2_after_38 : decode cX2_after 38 = .ok (.aload_n 0, 1) := by decide +kernel
theorem dX2_after_39 : decode cX2_after 39 = .ok (.iload_n 3, 1) := by decide +kernel
theorem dX2_after_40 : decode cX2_after 40 = .ok (.invokevirtual 67, 3) := by decide +kernel
theorem dX2_after_43 : decode cX2_after 43 = .ok (.ifCond .eq 5, 3) := by decide +kernel
theorem dX2_after_46 : decode cX2_after 46 = .ok (.iconst (-1), 1) := by decide +kernel
theorem dX2_after_47 : decode cX2_after 47 = .ok (.ireturn, 1) := by decide +kernel
theorem dX2_after_48 : decode cX2_after 48 = .ok (.iload_n 1, 1) := by decide +kernel
theorem dX2_after_49 : decode cX2_after 49 = .ok (.invokestatic 70, 3) := by decide +kernel
theorem dX2_after_52 : decode cX2_after 52 = .ok (.iload_n 2, 1) := by decide +kernel
theorem dX2_after_53 : decode cX2_after 53 = .ok (.invokestatic 73, 3) := by decide +kernel
theorem dX2_after_56 : decode cX2_after 56 = .ok (.istore 5, 2) := by decide +kernel
theorem dX2_after_58 : decode cX2_after 58 = .ok (.iload_n 3, 1) := by decide +kernel
theorem dX2_after_59 : decode cX2_after 59 = .ok (.iload 5, 2) := by decide +kernel
theorem dX2_after_61 : decode cX2_after 61 = .ok (.iadd, 1) := by decide +kernel
theorem dX2_after_62 : decode cX2_after 62 = .ok (.aload_n 0, 1) := by decide +kernel
theorem dX2_after_63 : decode cX2_after 63 = .ok (.invokevirtual 63, 3) := by decide +kernel
theorem dX2_after_66 : decode cX2_after 66 = .ok (.invokestatic 54, 3) := by decide +kernel
theorem dX2_after_69 : decode cX2_after 69 = .ok (.istore 6, 2) := by decide +kernel
theorem dX2_after_71 : decode cX2_after 71 = .ok (.iload 5, 2) := by decide +kernel
theorem dX2_after_73 : decode cX2_after 73 = .ok (.iconst 1, 1) := by decide +kernel
theorem dX2_after_74 : decode cX2_after 74 = .ok (.if_icmp .le 17, 3) := by decide +kernel
theorem dX2_after_77 : decode cX2_after 77 = .ok (.aload_n 0, 1) := by decide +kernel
theorem dX2_after_78 : decode cX2_after 78 = .ok (.iload_n 3, 1) := by decide +kernel
theorem dX2_after_79 : decode cX2_after 79 = .ok (.iconst 1, 1) := by decide +kernel
theorem dX2_after_80 : decode cX2_after 80 = .ok (.iadd, 1) := by decide +kernel
theorem dX2_after_81 : decode cX2_after 81 = .ok (.iload 6, 2) := by decide +kernel
theorem dX2_after_83 : decode cX2_after 83 = .ok (.invokevirtual 76, 3) := by decide +kernel
theorem dX2_after_86 : decode cX2_after 86 = .ok (.ifCond .eq 5, 3) := by decide +kernel
theorem dX2_after_89 : decode cX2_after 89 = .ok (.iconst (-1), 1) := by decide +kernel
theorem dX2_after_90 : decode cX2_after 90 = .ok (.ireturn, 1) := by decide +kernel
theorem dX2_after_91 : decode cX2_after 91 = .ok (.iload 6, 2) := by decide +kernel
theorem dX2_after_93 : decode cX2_after 93 = .ok (.iconst 4, 1) := by decide +kernel
theorem dX2_after_94 : decode cX2_after 94 = .ok (.imul, 1) := by decide +kernel
theorem dX2_after_95 : decode cX2_after 95 = .ok (.iload 5, 2) := by decide +kernel
theorem dX2_after_97 : decode cX2_after 97 = .ok (.iadd, 1) := by decide +kernel
theorem dX2_after_98 : decode cX2_after 98 = .ok (.ireturn, 1) := by decide +kernel
theorem dX2_paceAfter_0 : decode cX2_paceAfter 0 = .ok (.iload_n 1, 1) := by decide +kernel
theorem dX2_paceAfter_1 : decode cX2_paceAfter 1 = .ok (.tableswitch 49 0 2 #[27, 35, 43], 27) := by decide +kernel
theorem dX2_paceAfter_28 : decode cX2_paceAfter 28 = .ok (.iload_n 0, 1) := by decide +kernel
theorem dX2_paceAfter_29 : decode cX2_paceAfter 29 = .ok (.iconst 1, 1) := by decide +kernel
theorem dX2_paceAfter_30 : decode cX2_paceAfter 30 = .ok (.iadd, 1) := by decide +kernel
theorem dX2_paceAfter_31 : decode cX2_paceAfter 31 = .ok (.iconst 3, 1) := by decide +kernel
theorem dX2_paceAfter_32 : decode cX2_paceAfter 32 = .ok (.invokestatic 54, 3) := by decide +kernel
theorem dX2_paceAfter_35 : decode cX2_paceAfter 35 = .ok (.ireturn, 1) := by decide +kernel
theorem dX2_paceAfter_36 : decode cX2_paceAfter 36 = .ok (.iload_n 0, 1) := by decide +kernel
theorem dX2_paceAfter_37 : decode cX2_paceAfter 37 = .ok (.iconst 1, 1) := by decide +kernel
theorem dX2_paceAfter_38 : decode cX2_paceAfter 38 = .ok (.isub, 1) := by decide +kernel
theorem dX2_paceAfter_39 : decode cX2_paceAfter 39 = .ok (.iconst 0, 1) := by decide +kernel
theorem dX2_paceAfter_40 : decode cX2_paceAfter 40 = .ok (.invokestatic 80, 3) := by decide +kernel
theorem dX2_paceAfter_43 : decode cX2_paceAfter 43 = .ok (.ireturn, 1) := by decide +kernel
theorem dX2_paceAfter_44 : decode cX2_paceAfter 44 = .ok (.iload_n 0, 1) := by decide +kernel
theorem dX2_paceAfter_45 : decode cX2_paceAfter 45 = .ok (.iconst 1, 1) := by decide +kernel
theorem dX2_paceAfter_46 : decode cX2_paceAfter 46 = .ok (.invokestatic 80, 3) := by decide +kernel
theorem dX2_paceAfter_49 : decode cX2_paceAfter 49 = .ok (.ireturn, 1) := by decide +kernel
theorem dX2_paceAfter_50 : decode cX2_paceAfter 50 = .ok (.iconst 1, 1) := by decide +kernel
theorem dX2_paceAfter_51 : decode cX2_paceAfter 51 = .ok (.ireturn, 1) := by decide +kernel
theorem dX2_hasBridgeWithin_0 : decode cX2_hasBridgeWithin 0 = .ok (.iload_n 1, 1) := by decide +kernel
theorem dX2_hasBridgeWithin_1 : decode cX2_hasBridgeWithin 1 = .ok (.iconst 0, 1) := by decide +kernel
theorem dX2_hasBridgeWithin_2 : decode cX2_hasBridgeWithin 2 = .ok (.invokestatic 80, 3) := by decide +kernel
theorem dX2_hasBridgeWithin_5 : decode cX2_hasBridgeWithin 5 = .ok (.istore_n 3, 1) := by decide +kernel
theorem dX2_hasBridgeWithin_6 : decode cX2_hasBridgeWithin 6 = .ok (.iload_n 3, 1) := by decide +kernel
theorem dX2_hasBridgeWithin_7 : decode cX2_hasBridgeWithin 7 = .ok (.iload_n 2, 1) := by decide +kernel
theorem dX2_hasBridgeWithin_8 : decode cX2_hasBridgeWithin 8 = .ok (.if_icmp .gt 28, 3) := by decide +kernel
theorem dX2_hasBridgeWithin_11 : decode cX2_hasBridgeWithin 11 = .ok (.iload_n 3, 1) := by decide +kernel
theorem dX2_hasBridgeWithin_12 : decode cX2_hasBridgeWithin 12 = .ok (.aload_n 0, 1) := by decide +kernel
theorem dX2_hasBridgeWithin_13 : decode cX2_hasBridgeWithin 13 = .ok (.getfield 25, 3) := by decide +kernel
theorem dX2_hasBridgeWithin_16 : decode cX2_hasBridgeWithin 16 = .ok (.if_icmp .ge 20, 3) := by decide +kernel
theorem dX2_hasBridgeWithin_19 : decode cX2_hasBridgeWithin 19 = .ok (.aload_n 0, 1) := by decide +kernel
theorem dX2_hasBridgeWithin_20 : decode cX2_hasBridgeWithin 20 = .ok (.getfield 22, 3) := by decide +kernel
theorem dX2_hasBridgeWithin_23 : decode cX2_hasBridgeWithin 23 = .ok (.iload_n 3, 1) := by decide +kernel
theorem dX2_hasBridgeWithin_24 : decode cX2_hasBridgeWithin 24 = .ok (.baload, 1) := by decide +kernel
theorem dX2_hasBridgeWithin_25 : decode cX2_hasBridgeWithin 25 = .ok (.ifCond .eq 5, 3) := by decide +kernel
theorem dX2_hasBridgeWithin_28 : decode cX2_hasBridgeWithin 28 = .ok (.iconst 1, 1) := by decide +kernel
theorem dX2_hasBridgeWithin_29 : decode cX2_hasBridgeWithin 29 = .ok (.ireturn, 1) := by decide +kernel
theorem dX2_hasBridgeWithin_30 : decode cX2_hasBridgeWithin 30 = .ok (.iinc 3 1, 3) := by decide +kernel
theorem dX2_hasBridgeWithin_33 : decode cX2_hasBridgeWithin 33 = .ok (.goto (-27), 3) := by decide +kernel
theorem dX2_hasBridgeWithin_36 : decode cX2_hasBridgeWithin 36 = .ok (.iconst 0, 1) := by decide +kernel
theorem dX2_hasBridgeWithin_37 : decode cX2_hasBridgeWithin 37 = .ok (.ireturn, 1) := by decide +kernel
set_option maxRecDepth 20000 in
theorem ggX2_fewestTurns_X2_start : GoodIn wsX2_fewestTurns wsX2_start := goodIn_r _ [6, 7, 58, 59, 60, 61, 62, 63] (by decide +kernel) (by decide +kernel)
set_option maxRecDepth 20000 in
theorem gX2_fewestTurns_X2_start : GoodIn wsX2_fewestTurns (wsV RX2 83 RX2 yX2_start wsX2_start) := goodIn_app (goodIn_of _ (by decide +kernel)) ggX2_fewestTurns_X2_start
set_option maxRecDepth 20000 in
theorem ggX2_fewestTurns_X2_tea : GoodIn wsX2_fewestTurns wsX2_tea := goodIn_r _ [11, 12, 58, 59, 60, 61, 62, 63] (by decide +kernel) (by decide +kernel)
set_option maxRecDepth 20000 in
theorem gX2_fewestTurns_X2_tea : GoodIn wsX2_fewestTurns (wsV RX2 63 RX2 yX2_tea wsX2_tea) := goodIn_app (goodIn_of _ (by decide +kernel)) ggX2_fewestTurns_X2_tea
set_option maxRecDepth 20000 in
theorem ggX2_fewestTurns_X2_allAfter : GoodIn wsX2_fewestTurns wsX2_allAfter := goodIn_r _ [16, 17, 18, 19, 5, 20, 12, 21, 22, 23, 24, 25, 26, 27, 28, 29, 30, 31, 32, 33, 34, 35, 8, 9, 10, 11, 36, 37, 38, 39, 40, 41, 42, 43, 44, 45, 46, 47, 48, 49, 50, 51, 52, 53, 54, 55, 56, 57, 58, 59, 60, 61, 62, 63] (by decide +kernel) (by decide +kernel)
set_option maxRecDepth 20000 in
theorem gX2_fewestTurns_X2_allAfter : GoodIn wsX2_fewestTurns (wsV RX2 88 RX2 yX2_allAfter wsX2_allAfter) := goodIn_app (goodIn_of _ (by decide +kernel)) ggX2_fewestTurns_X2_allAfter
theorem dX2_fewestTurns_0 : decode cX2_fewestTurns 0 = .ok (.lconst 1, 1) := by decide +kernel
theorem dX2_fewestTurns_1 : decode cX2_fewestTurns 1 = .ok (.aload_n 0, 1) := by decide +kernel
theorem dX2_fewestTurns_2 : decode cX2_fewestTurns 2 = .ok (.invokevirtual 83, 3) := by decide +kernel
theorem dX2_fewestTurns_5 : decode cX2_fewestTurns 5 = .ok (.lshl, 1) := by decide +kernel
theorem dX2_fewestTurns_6 : decode cX2_fewestTurns 6 = .ok (.lstore_n 1, 1) := by decide +kernel
theorem dX2_fewestTurns_7 : decode cX2_fewestTurns 7 = .ok (.ldc2_w 86, 3) := by decide +kernel
theorem dX2_fewestTurns_10 : decode cX2_fewestTurns 10 = .ok (.aload_n 0, 1) := by decide +kernel
theorem dX2_fewestTurns_11 : decode cX2_fewestTurns 11 = .ok (.invokevirtual 63, 3) := by decide +kernel
theorem dX2_fewestTurns_14 : decode cX2_fewestTurns 14 = .ok (.iconst 4, 1) := by decide +kernel
theorem dX2_fewestTurns_15 : decode cX2_fewestTurns 15 = .ok (.imul, 1) := by decide +kernel
theorem dX2_fewestTurns_16 : decode cX2_fewestTurns 16 = .ok (.lshl, 1) := by decide +kernel
theorem dX2_fewestTurns_17 : decode cX2_fewestTurns 17 = .ok (.lstore_n 3, 1) := by decide +kernel
theorem dX2_fewestTurns_18 : decode cX2_fewestTurns 18 = .ok (.iconst 1, 1) := by decide +kernel
theorem dX2_fewestTurns_19 : decode cX2_fewestTurns 19 = .ok (.istore 5, 2) := by decide +kernel
theorem dX2_fewestTurns_21 : decode cX2_fewestTurns 21 = .ok (.iload 5, 2) := by decide +kernel
theorem dX2_fewestTurns_23 : decode cX2_fewestTurns 23 = .ok (.bipush 64, 2) := by decide +kernel
theorem dX2_fewestTurns_25 : decode cX2_fewestTurns 25 = .ok (.if_icmp .gt 26, 3) := by decide +kernel
theorem dX2_fewestTurns_28 : decode cX2_fewestTurns 28 = .ok (.aload_n 0, 1) := by decide +kernel
theorem dX2_fewestTurns_29 : decode cX2_fewestTurns 29 = .ok (.lload_n 1, 1) := by decide +kernel
theorem dX2_fewestTurns_30 : decode cX2_fewestTurns 30 = .ok (.invokevirtual 88, 3) := by decide +kernel
theorem dX2_fewestTurns_33 : decode cX2_fewestTurns 33 = .ok (.lstore_n 1, 1) := by decide +kernel
theorem dX2_fewestTurns_34 : decode cX2_fewestTurns 34 = .ok (.lload_n 1, 1) := by decide +kernel
theorem dX2_fewestTurns_35 : decode cX2_fewestTurns 35 = .ok (.lload_n 3, 1) := by decide +kernel
theorem dX2_fewestTurns_36 : decode cX2_fewestTurns 36 = .ok (.land, 1) := by decide +kernel
theorem dX2_fewestTurns_37 : decode cX2_fewestTurns 37 = .ok (.lconst 0, 1) := by decide +kernel
theorem dX2_fewestTurns_38 : decode cX2_fewestTurns 38 = .ok (.lcmp, 1) := by decide +kernel
theorem dX2_fewestTurns_39 : decode cX2_fewestTurns 39 = .ok (.ifCond .eq 6, 3) := by decide +kernel
theorem dX2_fewestTurns_42 : decode cX2_fewestTurns 42 = .ok (.iload 5, 2) := by decide +kernel
theorem dX2_fewestTurns_44 : decode cX2_fewestTurns 44 = .ok (.ireturn, 1) := by decide +kernel
theorem dX2_fewestTurns_45 : decode cX2_fewestTurns 45 = .ok (.iinc 5 1, 3) := by decide +kernel
theorem dX2_fewestTurns_48 : decode cX2_fewestTurns 48 = .ok (.goto (-27), 3) := by decide +kernel
theorem dX2_fewestTurns_51 : decode cX2_fewestTurns 51 = .ok (.bipush (-9), 2) := by decide +kernel
theorem dX2_fewestTurns_53 : decode cX2_fewestTurns 53 = .ok (.ireturn, 1) := by decide +kernel
set_option maxRecDepth 20000 in
theorem ggX2_allAfter_X2_spots : GoodIn wsX2_allAfter wsX2_spots := goodIn_r _ [5, 6, 48, 49, 50, 51, 52, 53] (by decide +kernel) (by decide +kernel)
set_option maxRecDepth 20000 in
theorem gX2_allAfter_X2_spots : GoodIn wsX2_allAfter (wsV RX2 92 RX2 yX2_spots wsX2_spots) := goodIn_app (goodIn_of _ (by decide +kernel)) ggX2_allAfter_X2_spots
set_option maxRecDepth 20000 in
theorem ggX2_allAfter_X2_eachAfter : GoodIn wsX2_allAfter wsX2_eachAfter := goodIn_r _ [10, 11, 12, 13, 4, 14, 15, 16, 17, 18, 19, 20, 21, 22, 23, 24, 25, 6, 26, 27, 28, 29, 30, 31, 32, 33, 34, 35, 36, 37, 38, 39, 40, 41, 42, 43, 44, 45, 46, 47, 48, 49, 50, 51, 52, 53] (by decide +kernel) (by decide +kernel)
set_option maxRecDepth 20000 in
theorem gX2_allAfter_X2_eachAfter : GoodIn wsX2_allAfter (wsV RX2 95 RX2 yX2_eachAfter wsX2_eachAfter) := goodIn_app (goodIn_of _ (by decide +kernel)) ggX2_allAfter_X2_eachAfter
theorem dX2_allAfter_0 : decode cX2_allAfter 0 = .ok (.lconst 0, 1) := by decide +kernel
theorem dX2_allAfter_1 : decode cX2_allAfter 1 = .ok (.lstore_n 3, 1) := by decide +kernel
theorem dX2_allAfter_2 : decode cX2_allAfter 2 = .ok (.iconst 0, 1) := by decide +kernel
theorem dX2_allAfter_3 : decode cX2_allAfter 3 = .ok (.istore 5, 2) := by decide +kernel
theorem dX2_allAfter_5 : decode cX2_allAfter 5 = .ok (.iload 5, 2) := by decide +kernel
theorem dX2_allAfter_7 : decode cX2_allAfter 7 = .ok (.aload_n 0, 1) := by decide +kernel
theorem dX2_allAfter_8 : decode cX2_allAfter 8 = .ok (.invokevirtual 92, 3) := by decide +kernel
theorem dX2_allAfter_11 : decode cX2_allAfter 11 = .ok (.if_icmp .ge 29, 3) := by decide +kernel
theorem dX2_allAfter_14 : decode cX2_allAfter 14 = .ok (.lload_n 1, 1) := by decide +kernel
theorem dX2_allAfter_15 : decode cX2_allAfter 15 = .ok (.iload 5, 2) := by decide +kernel
theorem dX2_allAfter_17 : decode cX2_allAfter 17 = .ok (.lushr, 1) := by decide +kernel
theorem dX2_allAfter_18 : decode cX2_allAfter 18 = .ok (.lconst 1, 1) := by decide +kernel
theorem dX2_allAfter_19 : decode cX2_allAfter 19 = .ok (.land, 1) := by decide +kernel
theorem dX2_allAfter_20 : decode cX2_allAfter 20 = .ok (.lconst 0, 1) := by decide +kernel
theorem dX2_allAfter_21 : decode cX2_allAfter 21 = .ok (.lcmp, 1) := by decide +kernel
theorem dX2_allAfter_22 : decode cX2_allAfter 22 = .ok (.ifCond .eq 12, 3) := by decide +kernel
theorem dX2_allAfter_25 : decode cX2_allAfter 25 = .ok (.lload_n 3, 1) := by decide +kernel
theorem dX2_allAfter_26 : decode cX2_allAfter 26 = .ok (.aload_n 0, 1) := by decide +kernel
theorem dX2_allAfter_27 : decode cX2_allAfter 27 = .ok (.iload 5, 2) := by decide +kernel
theorem dX2_allAfter_29 : decode cX2_allAfter 29 = .ok (.invokevirtual 95, 3) := by decide +kernel
theorem dX2_allAfter_32 : decode cX2_allAfter 32 = .ok (.lor, 1) := by decide +kernel
theorem dX2_allAfter_33 : decode cX2_allAfter 33 = .ok (.lstore_n 3, 1) := by decide +kernel
theorem dX2_allAfter_34 : decode cX2_allAfter 34 = .ok (.iinc 5 1, 3) := by decide +kernel
theorem dX2_allAfter_37 : decode cX2_allAfter 37 = .ok (.goto (-32), 3) := by decide +kernel
theorem dX2_allAfter_40 : decode cX2_allAfter 40 = .ok (.lload_n 3, 1) := by decide +kernel
theorem dX2_allAfter_41 : decode cX2_allAfter 41 = .ok (.lreturn, 1) := by decide +kernel
set_option maxRecDepth 20000 in
theorem ggX2_eachAfter_X2_after : GoodIn wsX2_eachAfter wsX2_after := goodIn_r _ [5, 6, 7, 8, 9, 10, 11, 12, 13, 14, 15, 4, 16, 17, 18, 19, 20, 21, 22, 23, 24, 25, 26, 27, 28, 29, 30, 31, 32, 33, 34, 35, 36, 37, 38, 39, 40, 41, 42, 43, 44, 45] (by decide +kernel) (by decide +kernel)
set_option maxRecDepth 20000 in
theorem gX2_eachAfter_X2_after : GoodIn wsX2_eachAfter (wsV RX2 99 RX2 yX2_after wsX2_after) := goodIn_app (goodIn_of _ (by decide +kernel)) ggX2_eachAfter_X2_after
theorem dX2_eachAfter_0 : decode cX2_eachAfter 0 = .ok (.lconst 0, 1) := by decide +kernel
theorem dX2_eachAfter_1 : decode cX2_eachAfter 1 = .ok (.lstore_n 2, 1) := by decide +kernel
theorem dX2_eachAfter_2 : decode cX2_eachAfter 2 = .ok (.iconst 0, 1) := by decide +kernel
theorem dX2_eachAfter_3 : decode cX2_eachAfter 3 = .ok (.istore 4, 2) := by decide +kernel
theorem dX2_eachAfter_5 : decode cX2_eachAfter 5 = .ok (.iload 4, 2) := by decide +kernel
theorem dX2_eachAfter_7 : decode cX2_eachAfter 7 = .ok (.iconst 3, 1) := by decide +kernel
theorem dX2_eachAfter_8 : decode cX2_eachAfter 8 = .ok (.if_icmp .gt 31, 3) := by decide +kernel
theorem dX2_eachAfter_11 : decode cX2_eachAfter 11 = .ok (.aload_n 0, 1) := by decide +kernel
theorem dX2_eachAfter_12 : decode cX2_eachAfter 12 = .ok (.iload_n 1, 1) := by decide +kernel
theorem dX2_eachAfter_13 : decode cX2_eachAfter 13 = .ok (.iload 4, 2) := by decide +kernel
theorem dX2_eachAfter_15 : decode cX2_eachAfter 15 = .ok (.invokevirtual 99, 3) := by decide +kernel
theorem dX2_eachAfter_18 : decode cX2_eachAfter 18 = .ok (.istore 5, 2) := by decide +kernel
theorem dX2_eachAfter_20 : decode cX2_eachAfter 20 = .ok (.iload 5, 2) := by decide +kernel
theorem dX2_eachAfter_22 : decode cX2_eachAfter 22 = .ok (.iconst (-1), 1) := by decide +kernel
theorem dX2_eachAfter_23 : decode cX2_eachAfter 23 = .ok (.if_icmp .eq 10, 3) := by decide +kernel
theorem dX2_eachAfter_26 : decode cX2_eachAfter 26 = .ok (.lload_n 2, 1) := by decide +kernel
theorem dX2_eachAfter_27 : decode cX2_eachAfter 27 = .ok (.lconst 1, 1) := by decide +kernel
theorem dX2_eachAfter_28 : decode cX2_eachAfter 28 = .ok (.iload 5, 2) := by decide +kernel
theorem dX2_eachAfter_30 : decode cX2_eachAfter 30 = .ok (.lshl, 1) := by decide +kernel
theorem dX2_eachAfter_31 : decode cX2_eachAfter 31 = .ok (.lor, 1) := by decide +kernel
theorem dX2_eachAfter_32 : decode cX2_eachAfter 32 = .ok (.lstore_n 2, 1) := by decide +kernel
theorem dX2_eachAfter_33 : decode cX2_eachAfter 33 = .ok (.iinc 4 1, 3) := by decide +kernel
theorem dX2_eachAfter_36 : decode cX2_eachAfter 36 = .ok (.goto (-31), 3) := by decide +kernel
theorem dX2_eachAfter_39 : decode cX2_eachAfter 39 = .ok (.lload_n 2, 1) := by decide +kernel
theorem dX2_eachAfter_40 : decode cX2_eachAfter 40 = .ok (.lreturn, 1) := by decide +kernel
theorem dX3_init_0 : decode cX3_init 0 = .ok (.aload_n 0, 1) := by decide +kernel
theorem dX3_init_1 : decode cX3_init 1 = .ok (.invokespecial 3, 3) := by decide +kernel
theorem dX3_init_4 : decode cX3_init 4 = .ok (.aload_n 0, 1) := by decide +kernel
theorem dX3_init_5 : decode cX3_init 5 = .ok (.bipush 60, 2) := by decide +kernel
theorem dX3_init_7 : decode cX3_init 7 = .ok (.newarray .int, 2) := by decide +kernel
theorem dX3_init_9 : decode cX3_init 9 = .ok (.putfield 9, 3) := by decide +kernel
theorem dX3_init_12 : decode cX3_init 12 = .ok (.aload_n 0, 1) := by decide +kernel
theorem dX3_init_13 : decode cX3_init 13 = .ok (.iconst (-1), 1) := by decide +kernel
theorem dX3_init_14 : decode cX3_init 14 = .ok (.putfield 15, 3) := by decide +kernel
theorem dX3_init_17 : decode cX3_init 17 = .ok (.return_, 1) := by decide +kernel
theorem dX3_isNothing_0 : decode cX3_isNothing 0 = .ok (.aload_n 0, 1) := by decide +kernel
theorem dX3_isNothing_1 : decode cX3_isNothing 1 = .ok (.getfield 15, 3) := by decide +kernel
theorem dX3_isNothing_4 : decode cX3_isNothing 4 = .ok (.iconst (-1), 1) := by decide +kernel
theorem dX3_isNothing_5 : decode cX3_isNothing 5 = .ok (.if_icmp .ne 7, 3) := by decide +kernel
theorem dX3_isNothing_8 : decode cX3_isNothing 8 = .ok (.iconst 1, 1) := by decide +kernel
theorem dX3_isNothing_9 : decode cX3_isNothing 9 = .ok (.goto 4, 3) := by decide +kernel
theorem dX3_isNothing_12 : decode cX3_isNothing 12 = .ok (.iconst 0, 1) := by decide +kernel
theorem dX3_isNothing_13 : decode cX3_isNothing 13 = .ok (.ireturn, 1) := by decide +kernel
set_option maxRecDepth 20000 in
theorem ggX3_begin_J7_fill_53178 : GoodIn wsX3_begin wsJ7_fill_53178 := goodIn_r _ [14] (by decide +kernel) (by decide +kernel)
set_option maxRecDepth 20000 in
theorem gX3_begin_J7_fill_53178 : GoodIn wsX3_begin (va_wsS RX3 19 yJ7_fill_53178 wsJ7_fill_53178) := goodIn_app (goodIn_of _ (by decide +kernel)) ggX3_begin_J7_fill_53178
theorem dX3_begin_0 : decode cX3_begin 0 = .ok (.aload_n 0, 1) := by decide +kernel
theorem dX3_begin_1 : decode cX3_begin 1 = .ok (.getfield 9, 3) := by decide +kernel
theorem dX3_begin_4 : decode cX3_begin 4 = .ok (.iconst 0, 1) := by decide +kernel
theorem dX3_begin_5 : decode cX3_begin 5 = .ok (.invokestatic 19, 3) := by decide +kernel
theorem dX3_begin_8 : decode cX3_begin 8 = .ok (.aload_n 0, 1) := by decide +kernel
theorem dX3_begin_9 : decode cX3_begin 9 = .ok (.iload_n 1, 1) := by decide +kernel
theorem dX3_begin_10 : decode cX3_begin 10 = .ok (.putfield 15, 3) := by decide +kernel
theorem dX3_begin_13 : decode cX3_begin 13 = .ok (.aload_n 0, 1) := by decide +kernel
theorem dX3_begin_14 : decode cX3_begin 14 = .ok (.iconst 0, 1) := by decide +kernel
theorem dX3_begin_15 : decode cX3_begin 15 = .ok (.iload_n 2, 1) := by decide +kernel
theorem dX3_begin_16 : decode cX3_begin 16 = .ok (.bipush 60, 2) := by decide +kernel
theorem dX3_begin_18 : decode cX3_begin 18 = .ok (.invokestatic 25, 3) := by decide +kernel
theorem dX3_begin_21 : decode cX3_begin 21 = .ok (.invokestatic 31, 3) := by decide +kernel
theorem dX3_begin_24 : decode cX3_begin 24 = .ok (.putfield 34, 3) := by decide +kernel
theorem dX3_begin_27 : decode cX3_begin 27 = .ok (.return_, 1) := by decide +kernel
set_option maxRecDepth 20000 in
theorem ggX3_faultAs_X3_isNothing : GoodIn wsX3_faultAs wsX3_isNothing := goodIn_r _ [6, 1, 7, 8, 9] (by decide +kernel) (by decide +kernel)
set_option maxRecDepth 20000 in
theorem gX3_faultAs_X3_isNothing : GoodIn wsX3_faultAs (wsV RX3 37 RX3 yX3_isNothing wsX3_isNothing) := goodIn_app (goodIn_of _ (by decide +kernel)) ggX3_faultAs_X3_isNothing
theorem dX3_faultAs_0 : decode cX3_faultAs 0 = .ok (.aload_n 0, 1) := by decide +kernel
theorem dX3_faultAs_1 : decode cX3_faultAs 1 = .ok (.invokevirtual 37, 3) := by decide +kernel
theorem dX3_faultAs_4 : decode cX3_faultAs 4 = .ok (.ifCond .eq 5, 3) := by decide +kernel
theorem dX3_faultAs_7 : decode cX3_faultAs 7 = .ok (.iconst 1, 1) := by decide +kernel
theorem dX3_faultAs_8 : decode cX3_faultAs 8 = .ok (.ireturn, 1) := by decide +kernel
theorem dX3_faultAs_9 : decode cX3_faultAs 9 = .ok (.aload_n 0, 1) := by decide +kernel
theorem dX3_faultAs_10 : decode cX3_faultAs 10 = .ok (.getfield 15, 3) := by decide +kernel
theorem dX3_faultAs_13 : decode cX3_faultAs 13 = .ok (.iload_n 1, 1) := by decide +kernel
theorem dX3_faultAs_14 : decode cX3_faultAs 14 = .ok (.if_icmp .ne 7, 3) := by decide +kernel
theorem dX3_faultAs_17 : decode cX3_faultAs 17 = .ok (.iconst 0, 1) := by decide +kernel
theorem dX3_faultAs_18 : decode cX3_faultAs 18 = .ok (.goto 4, 3) := by decide +kernel
theorem dX3_faultAs_21 : decode cX3_faultAs 21 = .ok (.iconst 2, 1) := by decide +kernel
theorem dX3_faultAs_22 : decode cX3_faultAs 22 = .ok (.ireturn, 1) := by decide +kernel
theorem dX3_has_0 : decode cX3_has 0 = .ok (.iload_n 1, 1) := by decide +kernel
theorem dX3_has_1 : decode cX3_has 1 = .ok (.ifCond .lt 15, 3) := by decide +kernel
theorem dX3_has_4 : decode cX3_has 4 = .ok (.iload_n 1, 1) := by decide +kernel
theorem dX3_has_5 : decode cX3_has 5 = .ok (.aload_n 0, 1) := by decide +kernel
theorem dX3_has_6 : decode cX3_has 6 = .ok (.getfield 34, 3) := by decide +kernel
theorem dX3_has_9 : decode cX3_has 9 = .ok (.if_icmp .ge 7, 3) := by decide +kernel
theorem dX3_has_12 : decode cX3_has 12 = .ok (.iconst 1, 1) := by decide +kernel
theorem dX3_has_13 : decode cX3_has 13 = .ok (.goto 4, 3) := by decide +kernel
theorem dX3_has_16 : decode cX3_has 16 = .ok (.iconst 0, 1) := by decide +kernel
theorem dX3_has_17 : decode cX3_has 17 = .ok (.ireturn, 1) := by decide +kernel
theorem dX3_hasStretch_0 : decode cX3_hasStretch 0 = .ok (.iload_n 1, 1) := by decide +kernel
theorem dX3_hasStretch_1 : decode cX3_hasStretch 1 = .ok (.ifCond .lt 29, 3) := by decide +kernel
theorem dX3_hasStretch_4 : decode cX3_hasStretch 4 = .ok (.iload_n 1, 1) := by decide +kernel
theorem dX3_hasStretch_5 : decode cX3_hasStretch 5 = .ok (.aload_n 0, 1) := by decide +kernel
theorem dX3_hasStretch_6 : decode cX3_hasStretch 6 = .ok (.getfield 34, 3) := by decide +kernel
theorem dX3_hasStretch_9 : decode cX3_hasStretch 9 = .ok (.if_icmp .gt 21, 3) := by decide +kernel
theorem dX3_hasStretch_12 : decode cX3_hasStretch 12 = .ok (.iload_n 2, 1) := by decide +kernel
theorem dX3_hasStretch_13 : decode cX3_hasStretch 13 = .ok (.ifCond .lt 17, 3) := by decide +kernel
theorem dX3_hasStretch_16 : decode cX3_hasStretch 16 = .ok (.iload_n 2, 1) := by decide +kernel
theorem dX3_hasStretch_17 : decode cX3_hasStretch 17 = .ok (.aload_n 0, 1) := by decide +kernel
theorem dX3_hasStretch_18 : decode cX3_hasStretch 18 = .ok (.getfield 34, 3) := by decide +kernel
theorem dX3_hasStretch_21 : decode cX3_hasStretch 21 = .ok (.iload_n 1, 1) := by decide +kernel
theorem dX3_hasStretch_22 : decode cX3_hasStretch 22 = .ok (.isub, 1) := by decide +kernel
theorem dX3_hasStretch_23 : decode cX3_hasStretch 23 = .ok (.if_icmp .gt 7, 3) := by decide +kernel
theorem dX3_hasStretch_26 : decode cX3_hasStretch 26 = .ok (.iconst 1, 1) := by decide +kernel
theorem dX3_hasStretch_27 : decode cX3_hasStretch 27 = .ok (.goto 4, 3) := by decide +kernel
theorem dX3_hasStretch_30 : decode cX3_hasStretch 30 = .ok (.iconst 0, 1) := by decide +kernel
theorem dX3_hasStretch_31 : decode cX3_hasStretch 31 = .ok (.ireturn, 1) := by decide +kernel
set_option maxRecDepth 20000 in
theorem ggX3_at_X3_has : GoodIn wsX3_at wsX3_has := goodIn_r _ [6, 7, 8, 9, 10] (by decide +kernel) (by decide +kernel)
set_option maxRecDepth 20000 in
theorem gX3_at_X3_has : GoodIn wsX3_at (wsV RX3 41 RX3 yX3_has wsX3_has) := goodIn_app (goodIn_of _ (by decide +kernel)) ggX3_at_X3_has
theorem dX3_at_0 : decode cX3_at 0 = .ok (.aload_n 0, 1) := by decide +kernel
theorem dX3_at_1 : decode cX3_at 1 = .ok (.iload_n 1, 1) := by decide +kernel
theorem dX3_at_2 : decode cX3_at 2 = .ok (.invokevirtual 41, 3) := by decide +kernel
theorem dX3_at_5 : decode cX3_at 5 = .ok (.ifCond .eq 12, 3) := by decide +kernel
theorem dX3_at_8 : decode cX3_at 8 = .ok (.aload_n 0, 1) := by decide +kernel
theorem dX3_at_9 : decode cX3_at 9 = .ok (.getfield 9, 3) := by decide +kernel
theorem dX3_at_12 : decode cX3_at 12 = .ok (.iload_n 1, 1) := by decide +kernel
theorem dX3_at_13 : decode cX3_at 13 = .ok (.iaload, 1) := by decide +kernel
theorem dX3_at_14 : decode cX3_at 14 = .ok (.goto 4, 3) := by decide +kernel
theorem dX3_at_17 : decode cX3_at 17 = .ok (.iconst 0, 1) := by decide +kernel
theorem dX3_at_18 : decode cX3_at 18 = .ok (.ireturn, 1) := by decide +kernel
set_option maxRecDepth 20000 in
theorem ggX3_become_X3_has : GoodIn wsX3_become wsX3_has := goodIn_r _ [6, 7, 13, 14, 15] (by decide +kernel) (by decide +kernel)
set_option maxRecDepth 20000 in
theorem gX3_become_X3_has : GoodIn wsX3_become (wsV RX3 41 RX3 yX3_has wsX3_has) := goodIn_app (goodIn_of _ (by decide +kernel)) ggX3_become_X3_has
set_option maxRecDepth 20000 in
theorem ggX3_become_X3_cutToLane : GoodIn wsX3_become wsX3_cutToLane := goodIn_r _ [11, 12, 13, 14, 15] (by decide +kernel) (by decide +kernel)
set_option maxRecDepth 20000 in
theorem gX3_become_X3_cutToLane : GoodIn wsX3_become (wsV RX3 45 RX3 yX3_cutToLane wsX3_cutToLane) := goodIn_app (goodIn_of _ (by decide +kernel)) ggX3_become_X3_cutToLane
theorem dX3_become_0 : decode cX3_become 0 = .ok (.aload_n 0, 1) := by decide +kernel
theorem dX3_become_1 : decode cX3_become 1 = .ok (.iload_n 1, 1) := by decide +kernel
theorem dX3_become_2 : decode cX3_become 2 = .ok (.invokevirtual 41, 3) := by decide +kernel
theorem dX3_become_5 : decode cX3_become 5 = .ok (.ifCond .eq 14, 3) := by decide +kernel
theorem dX3_become_8 : decode cX3_become 8 = .ok (.aload_n 0, 1) := by decide +kernel
theorem dX3_become_9 : decode cX3_become 9 = .ok (.getfield 9, 3) := by decide +kernel
theorem dX3_become_12 : decode cX3_become 12 = .ok (.iload_n 1, 1) := by decide +kernel
theorem dX3_become_13 : decode cX3_become 13 = .ok (.aload_n 0, 1) := by decide +kernel
theorem dX3_become_14 : decode cX3_become 14 = .ok (.iload_n 2, 1) := by decide +kernel
theorem dX3_become_15 : decode cX3_become 15 = .ok (.invokevirtual 45, 3) := by decide +kernel
theorem dX3_become_18 : decode cX3_become 18 = .ok (.iastore, 1) := by decide +kernel
theorem dX3_become_19 : decode cX3_become 19 = .ok (.return_, 1) := by decide +kernel
theorem dX3_cutToLane_0 : decode cX3_cutToLane 0 = .ok (.aload_n 0, 1) := by decide +kernel
theorem dX3_cutToLane_1 : decode cX3_cutToLane 1 = .ok (.getfield 15, 3) := by decide +kernel
theorem dX3_cutToLane_4 : decode cX3_cutToLane 4 = .ok (.lookupswitch 34 #[(0, 28), (1, 31)], 28) := by decide +kernel
theorem dX3_cutToLane_32 : decode cX3_cutToLane 32 = .ok (.iload_n 1, 1) := by decide +kernel
theorem dX3_cutToLane_33 : decode cX3_cutToLane 33 = .ok (.i2b, 1) := by decide +kernel
theorem dX3_cutToLane_34 : decode cX3_cutToLane 34 = .ok (.ireturn, 1) := by decide +kernel
theorem dX3_cutToLane_35 : decode cX3_cutToLane 35 = .ok (.iload_n 1, 1) := by decide +kernel
theorem dX3_cutToLane_36 : decode cX3_cutToLane 36 = .ok (.i2s, 1) := by decide +kernel
theorem dX3_cutToLane_37 : decode cX3_cutToLane 37 = .ok (.ireturn, 1) := by decide +kernel
theorem dX3_cutToLane_38 : decode cX3_cutToLane 38 = .ok (.iload_n 1, 1) := by decide +kernel
theorem dX3_cutToLane_39 : decode cX3_cutToLane 39 = .ok (.ireturn, 1) := by decide +kernel
theorem dX4_init_0 : decode cX4_init 0 = .ok (.aload_n 0, 1) := by decide +kernel
theorem dX4_init_1 : decode cX4_init 1 = .ok (.invokespecial 3, 3) := by decide +kernel
theorem dX4_init_4 : decode cX4_init 4 = .ok (.aload_n 0, 1) := by decide +kernel
theorem dX4_init_5 : decode cX4_init 5 = .ok (.sipush 832, 3) := by decide +kernel
theorem dX4_init_8 : decode cX4_init 8 = .ok (.newarray .long, 2) := by decide +kernel
theorem dX4_init_10 : decode cX4_init 10 = .ok (.putfield 9, 3) := by decide +kernel
theorem dX4_init_13 : decode cX4_init 13 = .ok (.return_, 1) := by decide +kernel
theorem dX4_forget_0 : decode cX4_forget 0 = .ok (.aload_n 0, 1) := by decide +kernel
theorem dX4_forget_1 : decode cX4_forget 1 = .ok (.iconst 0, 1) := by decide +kernel
theorem dX4_forget_2 : decode cX4_forget 2 = .ok (.putfield 15, 3) := by decide +kernel
theorem dX4_forget_5 : decode cX4_forget 5 = .ok (.return_, 1) := by decide +kernel
set_option maxRecDepth 20000 in
theorem ggX4_fill_J7_fill_d0a16 : GoodIn wsX4_fill wsJ7_fill_d0a16 := goodIn_r _ [6] (by decide +kernel) (by decide +kernel)
set_option maxRecDepth 20000 in
theorem gX4_fill_J7_fill_d0a16 : GoodIn wsX4_fill (va_wsS RX4 19 yJ7_fill_d0a16 wsJ7_fill_d0a16) := goodIn_app (goodIn_of _ (by decide +kernel)) ggX4_fill_J7_fill_d0a16
set_option maxRecDepth 20000 in
theorem ggX4_fill_X2_spots : GoodIn wsX4_fill wsX2_spots := goodIn_r _ [11, 12, 92, 93, 94, 95, 96, 97] (by decide +kernel) (by decide +kernel)
set_option maxRecDepth 20000 in
theorem gX4_fill_X2_spots : GoodIn wsX4_fill (wsV RX4 25 RX2 yX2_spots wsX2_spots) := goodIn_app (goodIn_of _ (by decide +kernel)) ggX4_fill_X2_spots
set_option maxRecDepth 20000 in
theorem ggX4_fill_X2_isAtTea : GoodIn wsX4_fill wsX2_isAtTea := goodIn_r _ [16, 17, 18, 19, 20, 21, 22, 10, 23, 12, 92, 93, 94, 95, 96, 97] (by decide +kernel) (by decide +kernel)
set_option maxRecDepth 20000 in
theorem gX4_fill_X2_isAtTea : GoodIn wsX4_fill (wsV RX4 31 RX2 yX2_isAtTea wsX2_isAtTea) := goodIn_app (goodIn_of _ (by decide +kernel)) ggX4_fill_X2_isAtTea
set_option maxRecDepth 20000 in
theorem ggX4_fill_X4_bestByAnyAct : GoodIn wsX4_fill wsX4_bestByAnyAct := goodIn_r _ [28, 29, 30, 31, 32, 33, 34, 35, 27, 36, 37, 38, 39, 10, 40, 41, 42, 43, 17, 18, 19, 20, 21, 22, 23, 12, 44, 45, 46, 47, 48, 49, 50, 51, 52, 53, 54, 55, 56, 57, 58, 59, 60, 61, 62, 63, 64, 65, 66, 67, 68, 69, 70, 71, 72, 73, 74, 75, 76, 77, 78, 79, 80, 81, 82, 83, 84, 85, 86, 87, 88, 89, 2, 92, 93, 94, 95, 96, 97, 90, 91] (by decide +kernel) (by decide +kernel)
set_option maxRecDepth 20000 in
theorem gX4_fill_X4_bestByAnyAct : GoodIn wsX4_fill (wsV RX4 35 RX4 yX4_bestByAnyAct wsX4_bestByAnyAct) := goodIn_app (goodIn_of _ (by decide +kernel)) ggX4_fill_X4_bestByAnyAct
theorem dX4_fill_0 : decode cX4_fill 0 = .ok (.aload_n 0, 1) := by decide +kernel
theorem dX4_fill_1 : decode cX4_fill 1 = .ok (.getfield 15, 3) := by decide +kernel
theorem dX4_fill_4 : decode cX4_fill 4 = .ok (.ifCond .eq 4, 3) := by decide +kernel
theorem dX4_fill_7 : decode cX4_fill 7 = .ok (.return_, 1) := by decide +kernel
theorem dX4_fill_8 : decode cX4_fill 8 = .ok (.aload_n 0, 1) := by decide +kernel
theorem dX4_fill_9 : decode cX4_fill 9 = .ok (.getfield 9, 3) := by decide +kernel
theorem dX4_fill_12 : decode cX4_fill 12 = .ok (.lconst 0, 1) := by decide +kernel
theorem dX4_fill_13 : decode cX4_fill 13 = .ok (.invokestatic 19, 3) := by decide +kernel
theorem dX4_fill_16 : decode cX4_fill 16 = .ok (.iconst 0, 1) := by decide +kernel
theorem dX4_fill_17 : decode cX4_fill 17 = .ok (.istore_n 2, 1) := by decide +kernel
theorem dX4_fill_18 : decode cX4_fill 18 = .ok (.iload_n 2, 1) := by decide +kernel
theorem dX4_fill_19 : decode cX4_fill 19 = .ok (.aload_n 1, 1) := by decide +kernel
theorem dX4_fill_20 : decode cX4_fill 20 = .ok (.invokevirtual 25, 3) := by decide +kernel
theorem dX4_fill_23 : decode cX4_fill 23 = .ok (.if_icmp .ge 34, 3) := by decide +kernel
theorem dX4_fill_26 : decode cX4_fill 26 = .ok (.iload_n 2, 1) := by decide +kernel
theorem dX4_fill_27 : decode cX4_fill 27 = .ok (.bipush 64, 2) := by decide +kernel
theorem dX4_fill_29 : decode cX4_fill 29 = .ok (.if_icmp .ge 28, 3) := by decide +kernel
theorem dX4_fill_32 : decode cX4_fill 32 = .ok (.aload_n 0, 1) := by decide +kernel
theorem dX4_fill_33 : decode cX4_fill 33 = .ok (.getfield 9, 3) := by decide +kernel
theorem dX4_fill_36 : decode cX4_fill 36 = .ok (.iload_n 2, 1) := by decide +kernel
theorem dX4_fill_37 : decode cX4_fill 37 = .ok (.aload_n 1, 1) := by decide +kernel
theorem dX4_fill_38 : decode cX4_fill 38 = .ok (.iload_n 2, 1) := by decide +kernel
theorem dX4_fill_39 : decode cX4_fill 39 = .ok (.invokevirtual 31, 3) := by decide +kernel
theorem dX4_fill_42 : decode cX4_fill 42 = .ok (.ifCond .eq 7, 3) := by decide +kernel
theorem dX4_fill_45 : decode cX4_fill 45 = .ok (.lconst 1, 1) := by decide +kernel
theorem dX4_fill_46 : decode cX4_fill 46 = .ok (.goto 4, 3) := by decide +kernel
theorem dX4_fill_49 : decode cX4_fill 49 = .ok (.lconst 0, 1) := by decide +kernel
theorem dX4_fill_50 : decode cX4_fill 50 = .ok (.lastore, 1) := by decide +kernel
theorem dX4_fill_51 : decode cX4_fill 51 = .ok (.iinc 2 1, 3) := by decide +kernel
theorem dX4_fill_54 : decode cX4_fill 54 = .ok (.goto (-36), 3) := by decide +kernel
theorem dX4_fill_57 : decode cX4_fill 57 = .ok (.iconst 1, 1) := by decide +kernel
theorem dX4_fill_58 : decode cX4_fill 58 = .ok (.istore_n 2, 1) := by decide +kernel
theorem dX4_fill_59 : decode cX4_fill 59 = .ok (.iload_n 2, 1) := by decide +kernel
theorem dX4_fill_60 : decode cX4_fill 60 = .ok (.bipush 12, 2) := by decide +kernel
theorem dX4_fill_62 : decode cX4_fill 62 = .ok (.if_icmp .gt 49, 3) := by decide +kernel
theorem dX4_fill_65 : decode cX4_fill 65 = .ok (.iconst 0, 1) := by decide +kernel
theorem dX4_fill_66 : decode cX4_fill 66 = .ok (.istore_n 3, 1) := by decide +kernel
theorem dX4_fill_67 : decode cX4_fill 67 = .ok (.iload_n 3, 1) := by decide +kernel
theorem dX4_fill_68 : decode cX4_fill 68 = .ok (.aload_n 1, 1) := by decide +kernel
theorem dX4_fill_69 : decode cX4_fill 69 = .ok (.invokevirtual 25, 3) := by decide +kernel
theorem dX4_fill_72 : decode cX4_fill 72 = .ok (.if_icmp .ge 33, 3) := by decide +kernel
theorem dX4_fill_75 : decode cX4_fill 75 = .ok (.iload_n 3, 1) := by decide +kernel
theorem dX4_fill_76 : decode cX4_fill 76 = .ok (.bipush 64, 2) := by decide +kernel
theorem dX4_fill_78 : decode cX4_fill 78 = .ok (.if_icmp .ge 27, 3) := by decide +kernel
theorem dX4_fill_81 : decode cX4_fill 81 = .ok (.aload_n 0, 1) := by decide +kernel
theorem dX4_fill_82 : decode cX4_fill 82 = .ok (.getfield 9, 3) := by decide +kernel
theorem dX4_fill_85 : decode cX4_fill 85 = .ok (.iload_n 2, 1) := by decide +kernel
theorem dX4_fill_86 : decode cX4_fill 86 = .ok (.bipush 64, 2) := by decide +kernel
theorem dX4_fill_88 : decode cX4_fill 88 = .ok (.imul, 1) := by decide +kernel
theorem dX4_fill_89 : decode cX4_fill 89 = .ok (.iload_n 3, 1) := by decide +kernel
theorem dX4_fill_90 : decode cX4_fill 90 = .ok (.iadd, 1) := by decide +kernel
theorem dX4_fill_91 : decode cX4_fill 91 = .ok (.aload_n 0, 1) := by decide +kernel
theorem dX4_fill_92 : decode cX4_fill 92 = .ok (.aload_n 1, 1) := by decide +kernel
theorem dX4_fill_93 : decode cX4_fill 93 = .ok (.iload_n 3, 1) := by decide +kernel
theorem dX4_fill_94 : decode cX4_fill 94 = .ok (.iload_n 2, 1) := by decide +kernel
theorem dX4_fill_95 : decode cX4_fill 95 = .ok (.invokevirtual 35, 3) := by decide +kernel
theorem dX4_fill_98 : decode cX4_fill 98 = .ok (.lastore, 1) := by decide +kernel
theorem dX4_fill_99 : decode cX4_fill 99 = .ok (.iinc 3 1, 3) := by decide +kernel
theorem dX4_fill_102 : decode cX4_fill 102 = .ok (.goto (-35), 3) := by decide +kernel
theorem dX4_fill_105 : decode cX4_fill 105 = .ok (.iinc 2 1, 3) := by decide +kernel
theorem dX4_fill_108 : decode cX4_fill 108 = .ok (.goto (-49), 3) := by decide +kernel
theorem dX4_fill_111 : decode cX4_fill 111 = .ok (.aload_n 0, 1) := by decide +kernel
theorem dX4_fill_112 : decode cX4_fill 112 = .ok (.iconst 1, 1) := by decide +kernel
theorem dX4_fill_113 : decode cX4_fill 113 = .ok (.putfield 15, 3) := by decide +kernel
theorem dX4_fill_116 : decode cX4_fill 116 = .ok (.return_, 1) := by decide +kernel
set_option maxRecDepth 20000 in
theorem ggX4_surestTurns_X2_start : GoodIn wsX4_surestTurns wsX2_start := goodIn_r _ [5, 6, 17, 18, 19, 20, 21, 22] (by decide +kernel) (by decide +kernel)
set_option maxRecDepth 20000 in
theorem gX4_surestTurns_X2_start : GoodIn wsX4_surestTurns (wsV RX4 39 RX2 yX2_start wsX2_start) := goodIn_app (goodIn_of _ (by decide +kernel)) ggX4_surestTurns_X2_start
set_option maxRecDepth 20000 in
theorem ggX4_surestTurns_X4_bestOf : GoodIn wsX4_surestTurns wsX4_bestOf := goodIn_r _ [11, 12, 23, 24] (by decide +kernel) (by decide +kernel)
set_option maxRecDepth 20000 in
theorem gX4_surestTurns_X4_bestOf : GoodIn wsX4_surestTurns (wsV RX4 42 RX4 yX4_bestOf wsX4_bestOf) := goodIn_app (goodIn_of _ (by decide +kernel)) ggX4_surestTurns_X4_bestOf
set_option maxRecDepth 20000 in
theorem ggX4_surestTurns_X7_tenTo : GoodIn wsX4_surestTurns wsX7_tenTo := goodIn_r _ [15, 16] (by decide +kernel) (by decide +kernel)
set_option maxRecDepth 20000 in
theorem gX4_surestTurns_X7_tenTo_n46 : GoodIn wsX4_surestTurns (wsX7_tenTo) := ggX4_surestTurns_X7_tenTo
theorem dX4_surestTurns_0 : decode cX4_surestTurns 0 = .ok (.lconst 0, 1) := by decide +kernel
theorem dX4_surestTurns_1 : decode cX4_surestTurns 1 = .ok (.lstore_n 3, 1) := by decide +kernel
theorem dX4_surestTurns_2 : decode cX4_surestTurns 2 = .ok (.iconst 0, 1) := by decide +kernel
theorem dX4_surestTurns_3 : decode cX4_surestTurns 3 = .ok (.istore 5, 2) := by decide +kernel
theorem dX4_surestTurns_5 : decode cX4_surestTurns 5 = .ok (.iconst 1, 1) := by decide +kernel
theorem dX4_surestTurns_6 : decode cX4_surestTurns 6 = .ok (.istore 6, 2) := by decide +kernel
theorem dX4_surestTurns_8 : decode cX4_surestTurns 8 = .ok (.iload 6, 2) := by decide +kernel
theorem dX4_surestTurns_10 : decode cX4_surestTurns 10 = .ok (.iload_n 2, 1) := by decide +kernel
theorem dX4_surestTurns_11 : decode cX4_surestTurns 11 = .ok (.if_icmp .gt 44, 3) := by decide +kernel
theorem dX4_surestTurns_14 : decode cX4_surestTurns 14 = .ok (.aload_n 0, 1) := by decide +kernel
theorem dX4_surestTurns_15 : decode cX4_surestTurns 15 = .ok (.iload 6, 2) := by decide +kernel
theorem dX4_surestTurns_17 : decode cX4_surestTurns 17 = .ok (.aload_n 1, 1) := by decide +kernel
theorem dX4_surestTurns_18 : decode cX4_surestTurns 18 = .ok (.invokevirtual 39, 3) := by decide +kernel
theorem dX4_surestTurns_21 : decode cX4_surestTurns 21 = .ok (.invokevirtual 42, 3) := by decide +kernel
theorem dX4_surestTurns_24 : decode cX4_surestTurns 24 = .ok (.bipush 12, 2) := by decide +kernel
theorem dX4_surestTurns_26 : decode cX4_surestTurns 26 = .ok (.iload 6, 2) := by decide +kernel
theorem dX4_surestTurns_28 : decode cX4_surestTurns 28 = .ok (.isub, 1) := by decide +kernel
theorem dX4_surestTurns_29 : decode cX4_surestTurns 29 = .ok (.invokestatic 46, 3) := by decide +kernel
theorem dX4_surestTurns_32 : decode cX4_surestTurns 32 = .ok (.lmul, 1) := by decide +kernel
theorem dX4_surestTurns_33 : decode cX4_surestTurns 33 = .ok (.lstore 7, 2) := by decide +kernel
theorem dX4_surestTurns_35 : decode cX4_surestTurns 35 = .ok (.lload 7, 2) := by decide +kernel
theorem dX4_surestTurns_37 : decode cX4_surestTurns 37 = .ok (.lload_n 3, 1) := by decide +kernel
theorem dX4_surestTurns_38 : decode cX4_surestTurns 38 = .ok (.lcmp, 1) := by decide +kernel
theorem dX4_surestTurns_39 : decode cX4_surestTurns 39 = .ok (.ifCond .le 10, 3) := by decide +kernel
theorem dX4_surestTurns_42 : decode cX4_surestTurns 42 = .ok (.lload 7, 2) := by decide +kernel
theorem dX4_surestTurns_44 : decode cX4_surestTurns 44 = .ok (.lstore_n 3, 1) := by decide +kernel
theorem dX4_surestTurns_45 : decode cX4_surestTurns 45 = .ok (.iload 6, 2) := by decide +kernel
theorem dX4_surestTurns_47 : decode cX4_surestTurns 47 = .ok (.istore 5, 2) := by decide +kernel
theorem dX4_surestTurns_49 : decode cX4_surestTurns 49 = .ok (.iinc 6 1, 3) := by decide +kernel
theorem dX4_surestTurns_52 : decode cX4_surestTurns 52 = .ok (.goto (-44), 3) := by decide +kernel
theorem dX4_surestTurns_55 : decode cX4_surestTurns 55 = .ok (.iload 5, 2) := by decide +kernel
theorem dX4_surestTurns_57 : decode cX4_surestTurns 57 = .ok (.ireturn, 1) := by decide +kernel
set_option maxRecDepth 20000 in
theorem ggX4_actOf_X2_start : GoodIn wsX4_actOf wsX2_start := goodIn_r _ [5, 6, 79, 80, 81, 82, 83, 84] (by decide +kernel) (by decide +kernel)
set_option maxRecDepth 20000 in
theorem gX4_actOf_X2_start : GoodIn wsX4_actOf (wsV RX4 39 RX2 yX2_start wsX2_start) := goodIn_app (goodIn_of _ (by decide +kernel)) ggX4_actOf_X2_start
set_option maxRecDepth 20000 in
theorem ggX4_actOf_X4_firstBestAct : GoodIn wsX4_actOf wsX4_firstBestAct := goodIn_r _ [11, 12, 13, 14, 10, 15, 16, 17, 18, 19, 20, 21, 22, 23, 4, 24, 25, 26, 27, 28, 29, 30, 31, 32, 33, 34, 35, 36, 37, 38, 39, 40, 41, 42, 43, 44, 45, 46, 47, 48, 49, 50, 51, 52, 53, 54, 55, 56, 57, 58, 59, 60, 61, 62, 63, 64, 65, 66, 67, 68, 69, 70, 71, 72, 73, 74, 75, 76, 77, 78, 85, 86, 79, 80, 81, 82, 83, 84] (by decide +kernel) (by decide +kernel)
set_option maxRecDepth 20000 in
theorem gX4_actOf_X4_firstBestAct : GoodIn wsX4_actOf (wsV RX4 50 RX4 yX4_firstBestAct wsX4_firstBestAct) := goodIn_app (goodIn_of _ (by decide +kernel)) ggX4_actOf_X4_firstBestAct
set_option maxRecDepth 20000 in
theorem ggX4_actOf_X2_after : GoodIn wsX4_actOf wsX2_after := goodIn_r _ [24, 25, 26, 27, 28, 29, 30, 31, 32, 33, 34, 4, 35, 36, 37, 38, 39, 40, 41, 42, 43, 44, 45, 46, 47, 48, 49, 50, 51, 52, 53, 54, 55, 56, 57, 58, 79, 80, 81, 82, 83, 84] (by decide +kernel) (by decide +kernel)
set_option maxRecDepth 20000 in
theorem gX4_actOf_X2_after : GoodIn wsX4_actOf (wsV RX4 54 RX2 yX2_after wsX2_after) := goodIn_app (goodIn_of _ (by decide +kernel)) ggX4_actOf_X2_after
theorem dX4_actOf_0 : decode cX4_actOf 0 = .ok (.aload_n 1, 1) := by decide +kernel
theorem dX4_actOf_1 : decode cX4_actOf 1 = .ok (.invokevirtual 39, 3) := by decide +kernel
theorem dX4_actOf_4 : decode cX4_actOf 4 = .ok (.istore 4, 2) := by decide +kernel
theorem dX4_actOf_6 : decode cX4_actOf 6 = .ok (.iconst 0, 1) := by decide +kernel
theorem dX4_actOf_7 : decode cX4_actOf 7 = .ok (.istore 5, 2) := by decide +kernel
theorem dX4_actOf_9 : decode cX4_actOf 9 = .ok (.iload 5, 2) := by decide +kernel
theorem dX4_actOf_11 : decode cX4_actOf 11 = .ok (.iload_n 2, 1) := by decide +kernel
theorem dX4_actOf_12 : decode cX4_actOf 12 = .ok (.if_icmp .ge 41, 3) := by decide +kernel
theorem dX4_actOf_15 : decode cX4_actOf 15 = .ok (.aload_n 0, 1) := by decide +kernel
theorem dX4_actOf_16 : decode cX4_actOf 16 = .ok (.aload_n 1, 1) := by decide +kernel
theorem dX4_actOf_17 : decode cX4_actOf 17 = .ok (.iload 4, 2) := by decide +kernel
theorem dX4_actOf_19 : decode cX4_actOf 19 = .ok (.iload_n 2, 1) := by decide +kernel
theorem dX4_actOf_20 : decode cX4_actOf 20 = .ok (.iload 5, 2) := by decide +kernel
theorem dX4_actOf_22 : decode cX4_actOf 22 = .ok (.isub, 1) := by decide +kernel
theorem dX4_actOf_23 : decode cX4_actOf 23 = .ok (.invokevirtual 50, 3) := by decide +kernel
theorem dX4_actOf_26 : decode cX4_actOf 26 = .ok (.istore 6, 2) := by decide +kernel
theorem dX4_actOf_28 : decode cX4_actOf 28 = .ok (.iload 5, 2) := by decide +kernel
theorem dX4_actOf_30 : decode cX4_actOf 30 = .ok (.iload_n 3, 1) := by decide +kernel
theorem dX4_actOf_31 : decode cX4_actOf 31 = .ok (.if_icmp .ne 6, 3) := by decide +kernel
theorem dX4_actOf_34 : decode cX4_actOf 34 = .ok (.iload 6, 2) := by decide +kernel
theorem dX4_actOf_36 : decode cX4_actOf 36 = .ok (.ireturn, 1) := by decide +kernel
theorem dX4_actOf_37 : decode cX4_actOf 37 = .ok (.aload_n 1, 1) := by decide +kernel
theorem dX4_actOf_38 : decode cX4_actOf 38 = .ok (.iload 4, 2) := by decide +kernel
theorem dX4_actOf_40 : decode cX4_actOf 40 = .ok (.iload 6, 2) := by decide +kernel
theorem dX4_actOf_42 : decode cX4_actOf 42 = .ok (.invokevirtual 54, 3) := by decide +kernel
theorem dX4_actOf_45 : decode cX4_actOf 45 = .ok (.istore 4, 2) := by decide +kernel
theorem dX4_actOf_47 : decode cX4_actOf 47 = .ok (.iinc 5 1, 3) := by decide +kernel
theorem dX4_actOf_50 : decode cX4_actOf 50 = .ok (.goto (-41), 3) := by decide +kernel
theorem dX4_actOf_53 : decode cX4_actOf 53 = .ok (.bipush (-9), 2) := by decide +kernel
theorem dX4_actOf_55 : decode cX4_actOf 55 = .ok (.ireturn, 1) := by decide +kernel
theorem dX4_bestOf_0 : decode cX4_bestOf 0 = .ok (.iload_n 1, 1) := by decide +kernel
theorem dX4_bestOf_1 : decode cX4_bestOf 1 = .ok (.bipush 64, 2) := by decide +kernel
theorem dX4_bestOf_3 : decode cX4_bestOf 3 = .ok (.imul, 1) := by decide +kernel
theorem dX4_bestOf_4 : decode cX4_bestOf 4 = .ok (.iload_n 2, 1) := by decide +kernel
theorem dX4_bestOf_5 : decode cX4_bestOf 5 = .ok (.iadd, 1) := by decide +kernel
theorem dX4_bestOf_6 : decode cX4_bestOf 6 = .ok (.istore_n 3, 1) := by decide +kernel
theorem dX4_bestOf_7 : decode cX4_bestOf 7 = .ok (.iload_n 1, 1) := by decide +kernel
theorem dX4_bestOf_8 : decode cX4_bestOf 8 = .ok (.ifCond .lt 26, 3) := by decide +kernel
theorem dX4_bestOf_11 : decode cX4_bestOf 11 = .ok (.iload_n 2, 1) := by decide +kernel
theorem dX4_bestOf_12 : decode cX4_bestOf 12 = .ok (.ifCond .lt 22, 3) := by decide +kernel
theorem dX4_bestOf_15 : decode cX4_bestOf 15 = .ok (.iload_n 2, 1) := by decide +kernel
theorem dX4_bestOf_16 : decode cX4_bestOf 16 = .ok (.bipush 64, 2) := by decide +kernel
theorem dX4_bestOf_18 : decode cX4_bestOf 18 = .ok (.if_icmp .ge 16, 3) := by decide +kernel
theorem dX4_bestOf_21 : decode cX4_bestOf 21 = .ok (.iload_n 3, 1) := by decide +kernel
theorem dX4_bestOf_22 : decode cX4_bestOf 22 = .ok (.aload_n 0, 1) := by decide +kernel
theorem dX4_bestOf_23 : decode cX4_bestOf 23 = .ok (.getfield 9, 3) := by decide +kernel
theorem dX4_bestOf_26 : decode cX4_bestOf 26 = .ok (.arraylength, 1) := by decide +kernel
theorem dX4_bestOf_27 : decode cX4_bestOf 27 = .ok (.if_icmp .ge 7, 3) := by decide +kernel
theorem dX4_bestOf_30 : decode cX4_bestOf 30 = .ok (.iconst 1, 1) := by decide +kernel
theorem dX4_bestOf_31 : decode cX4_bestOf 31 = .ok (.goto 4, 3) := by decide +kernel
theorem dX4_bestOf_34 : decode cX4_bestOf 34 = .ok (.iconst 0, 1) := by decide +kernel
theorem dX4_bestOf_35 : decode cX4_bestOf 35 = .ok (.istore 4, 2) := by decide +kernel
theorem dX4_bestOf_37 : decode cX4_bestOf 37 = .ok (.iload 4, 2) := by decide +kernel
theorem dX4_bestOf_39 : decode cX4_bestOf 39 = .ok (.ifCond .eq 12, 3) := by decide +kernel
theorem dX4_bestOf_42 : decode cX4_bestOf 42 = .ok (.aload_n 0, 1) := by decide +kernel
theorem dX4_bestOf_43 : decode cX4_bestOf 43 = .ok (.getfield 9, 3) := by decide +kernel
theorem dX4_bestOf_46 : decode cX4_bestOf 46 = .ok (.iload_n 3, 1) := by decide +kernel
theorem dX4_bestOf_47 : decode cX4_bestOf 47 = .ok (.laload, 1) := by decide +kernel
theorem dX4_bestOf_48 : decode cX4_bestOf 48 = .ok (.goto 4, 3) := by decide +kernel
theorem dX4_bestOf_51 : decode cX4_bestOf 51 = .ok (.lconst 0, 1) := by decide +kernel
theorem dX4_bestOf_52 : decode cX4_bestOf 52 = .ok (.lreturn, 1) := by decide +kernel
set_option maxRecDepth 20000 in
theorem ggX4_bestByAnyAct_X4_bestByAct : GoodIn wsX4_bestByAnyAct wsX4_bestByAct := goodIn_r _ [9, 10, 11, 12, 13, 14, 15, 16, 3, 17, 18, 19, 20, 21, 22, 23, 24, 25, 26, 27, 28, 29, 30, 31, 32, 33, 34, 35, 36, 37, 38, 39, 40, 41, 42, 43, 44, 45, 46, 47, 48, 49, 50, 51, 52, 53, 54, 55, 56, 57, 58, 59, 60, 61, 62, 63, 64, 65, 66, 67, 68, 69, 70, 8, 71, 72, 73, 74, 75, 76, 77, 78, 79, 80] (by decide +kernel) (by decide +kernel)
set_option maxRecDepth 20000 in
theorem gX4_bestByAnyAct_X4_bestByAct : GoodIn wsX4_bestByAnyAct (wsV RX4 58 RX4 yX4_bestByAct wsX4_bestByAct) := goodIn_app (goodIn_of _ (by decide +kernel)) ggX4_bestByAnyAct_X4_bestByAct
theorem dX4_bestByAnyAct_0 : decode cX4_bestByAnyAct 0 = .ok (.lconst 0, 1) := by decide +kernel
theorem dX4_bestByAnyAct_1 : decode cX4_bestByAnyAct 1 = .ok (.lstore 4, 2) := by decide +kernel
theorem dX4_bestByAnyAct_3 : decode cX4_bestByAnyAct 3 = .ok (.iconst 0, 1) := by decide +kernel
theorem dX4_bestByAnyAct_4 : decode cX4_bestByAnyAct 4 = .ok (.istore 6, 2) := by decide +kernel
theorem dX4_bestByAnyAct_6 : decode cX4_bestByAnyAct 6 = .ok (.iload 6, 2) := by decide +kernel
theorem dX4_bestByAnyAct_8 : decode cX4_bestByAnyAct 8 = .ok (.iconst 3, 1) := by decide +kernel
theorem dX4_bestByAnyAct_9 : decode cX4_bestByAnyAct 9 = .ok (.if_icmp .gt 25, 3) := by decide +kernel
theorem dX4_bestByAnyAct_12 : decode cX4_bestByAnyAct 12 = .ok (.lload 4, 2) := by decide +kernel
theorem dX4_bestByAnyAct_14 : decode cX4_bestByAnyAct 14 = .ok (.aload_n 0, 1) := by decide +kernel
theorem dX4_bestByAnyAct_15 : decode cX4_bestByAnyAct 15 = .ok (.aload_n 1, 1) := by decide +kernel
theorem dX4_bestByAnyAct_16 : decode cX4_bestByAnyAct 16 = .ok (.iload_n 2, 1) := by decide +kernel
theorem dX4_bestByAnyAct_17 : decode cX4_bestByAnyAct 17 = .ok (.iload 6, 2) := by decide +kernel
theorem dX4_bestByAnyAct_19 : decode cX4_bestByAnyAct 19 = .ok (.iload_n 3, 1) := by decide +kernel
theorem dX4_bestByAnyAct_20 : decode cX4_bestByAnyAct 20 = .ok (.invokevirtual 58, 3) := by decide +kernel
theorem dX4_bestByAnyAct_23 : decode cX4_bestByAnyAct 23 = .ok (.invokestatic 62, 3) := by decide +kernel
theorem dX4_bestByAnyAct_26 : decode cX4_bestByAnyAct 26 = .ok (.lstore 4, 2) := by decide +kernel
theorem dX4_bestByAnyAct_28 : decode cX4_bestByAnyAct 28 = .ok (.iinc 6 1, 3) := by decide +kernel
theorem dX4_bestByAnyAct_31 : decode cX4_bestByAnyAct 31 = .ok (.goto (-25), 3) := by decide +kernel
theorem dX4_bestByAnyAct_34 : decode cX4_bestByAnyAct 34 = .ok (.lload 4, 2) := by decide +kernel
theorem dX4_bestByAnyAct_36 : decode cX4_bestByAnyAct 36 = .ok (.lreturn, 1) := by decide +kernel
set_option maxRecDepth 20000 in
theorem ggX4_bestByAct_X2_after : GoodIn wsX4_bestByAct wsX2_after := goodIn_r _ [5, 6, 7, 8, 9, 10, 11, 12, 13, 14, 15, 4, 16, 17, 18, 19, 20, 21, 22, 23, 24, 25, 26, 27, 28, 29, 30, 31, 32, 33, 34, 35, 36, 37, 38, 39, 66, 67, 68, 69, 70, 71] (by decide +kernel) (by decide +kernel)
set_option maxRecDepth 20000 in
theorem gX4_bestByAct_X2_after : GoodIn wsX4_bestByAct (wsV RX4 54 RX2 yX2_after wsX2_after) := goodIn_app (goodIn_of _ (by decide +kernel)) ggX4_bestByAct_X2_after
set_option maxRecDepth 20000 in
theorem ggX4_bestByAct_X7_cellOf : GoodIn wsX4_bestByAct wsX7_cellOf := goodIn_r _ [12] (by decide +kernel) (by decide +kernel)
set_option maxRecDepth 20000 in
theorem gX4_bestByAct_X7_cellOf_n68 : GoodIn wsX4_bestByAct (wsX7_cellOf) := ggX4_bestByAct_X7_cellOf
set_option maxRecDepth 20000 in
theorem ggX4_bestByAct_X2_holdsIn : GoodIn wsX4_bestByAct wsX2_holdsIn := goodIn_r _ [43, 44, 45, 46, 4, 47, 48, 23, 24, 25, 26, 17, 49, 50, 51, 52, 53, 54, 55, 56, 57, 22, 6, 7, 8, 9, 66, 67, 68, 69, 70, 71] (by decide +kernel) (by decide +kernel)
set_option maxRecDepth 20000 in
theorem gX4_bestByAct_X2_holdsIn : GoodIn wsX4_bestByAct (wsV RX4 72 RX2 yX2_holdsIn wsX2_holdsIn) := goodIn_app (goodIn_of _ (by decide +kernel)) ggX4_bestByAct_X2_holdsIn
set_option maxRecDepth 20000 in
theorem ggX4_bestByAct_X7_dryTenths : GoodIn wsX4_bestByAct wsX7_dryTenths := goodIn_r _ [59] (by decide +kernel) (by decide +kernel)
set_option maxRecDepth 20000 in
theorem gX4_bestByAct_X7_dryTenths_n75 : GoodIn wsX4_bestByAct (wsX7_dryTenths) := ggX4_bestByAct_X7_dryTenths
set_option maxRecDepth 20000 in
theorem ggX4_bestByAct_X4_bestOf : GoodIn wsX4_bestByAct wsX4_bestOf := goodIn_r _ [64, 65, 72, 73] (by decide +kernel) (by decide +kernel)
set_option maxRecDepth 20000 in
theorem gX4_bestByAct_X4_bestOf : GoodIn wsX4_bestByAct (wsV RX4 42 RX4 yX4_bestOf wsX4_bestOf) := goodIn_app (goodIn_of _ (by decide +kernel)) ggX4_bestByAct_X4_bestOf
theorem dX4_bestByAct_0 : decode cX4_bestByAct 0 = .ok (.aload_n 1, 1) := by decide +kernel
theorem dX4_bestByAct_1 : decode cX4_bestByAct 1 = .ok (.iload_n 2, 1) := by decide +kernel
theorem dX4_bestByAct_2 : decode cX4_bestByAct 2 = .ok (.iload_n 3, 1) := by decide +kernel
theorem dX4_bestByAct_3 : decode cX4_bestByAct 3 = .ok (.invokevirtual 54, 3) := by decide +kernel
theorem dX4_bestByAct_6 : decode cX4_bestByAct 6 = .ok (.istore 5, 2) := by decide +kernel
theorem dX4_bestByAct_8 : decode cX4_bestByAct 8 = .ok (.iload 5, 2) := by decide +kernel
theorem dX4_bestByAct_10 : decode cX4_bestByAct 10 = .ok (.iconst (-1), 1) := by decide +kernel
theorem dX4_bestByAct_11 : decode cX4_bestByAct 11 = .ok (.if_icmp .ne 5, 3) := by decide +kernel
theorem dX4_bestByAct_14 : decode cX4_bestByAct 14 = .ok (.lconst 0, 1) := by decide +kernel
theorem dX4_bestByAct_15 : decode cX4_bestByAct 15 = .ok (.lreturn, 1) := by decide +kernel
theorem dX4_bestByAct_16 : decode cX4_bestByAct 16 = .ok (.iload_n 3, 1) := by decide +kernel
theorem dX4_bestByAct_17 : decode cX4_bestByAct 17 = .ok (.aload_n 1, 1) := by decide +kernel
theorem dX4_bestByAct_18 : decode cX4_bestByAct 18 = .ok (.iload_n 2, 1) := by decide +kernel
theorem dX4_bestByAct_19 : decode cX4_bestByAct 19 = .ok (.invokestatic 68, 3) := by decide +kernel
theorem dX4_bestByAct_22 : decode cX4_bestByAct 22 = .ok (.invokevirtual 72, 3) := by decide +kernel
theorem dX4_bestByAct_25 : decode cX4_bestByAct 25 = .ok (.invokestatic 75, 3) := by decide +kernel
theorem dX4_bestByAct_28 : decode cX4_bestByAct 28 = .ok (.i2l, 1) := by decide +kernel
theorem dX4_bestByAct_29 : decode cX4_bestByAct 29 = .ok (.aload_n 0, 1) := by decide +kernel
theorem dX4_bestByAct_30 : decode cX4_bestByAct 30 = .ok (.iload 4, 2) := by decide +kernel
theorem dX4_bestByAct_32 : decode cX4_bestByAct 32 = .ok (.iconst 1, 1) := by decide +kernel
theorem dX4_bestByAct_33 : decode cX4_bestByAct 33 = .ok (.isub, 1) := by decide +kernel
theorem dX4_bestByAct_34 : decode cX4_bestByAct 34 = .ok (.iload 5, 2) := by decide +kernel
theorem dX4_bestByAct_36 : decode cX4_bestByAct 36 = .ok (.invokevirtual 42, 3) := by decide +kernel
theorem dX4_bestByAct_39 : decode cX4_bestByAct 39 = .ok (.lmul, 1) := by decide +kernel
theorem dX4_bestByAct_40 : decode cX4_bestByAct 40 = .ok (.lreturn, 1) := by decide +kernel
set_option maxRecDepth 20000 in
theorem ggX4_firstBestAct_X4_bestOf : GoodIn wsX4_firstBestAct wsX4_bestOf := goodIn_r _ [5, 6, 70, 71] (by decide +kernel) (by decide +kernel)
set_option maxRecDepth 20000 in
theorem gX4_firstBestAct_X4_bestOf : GoodIn wsX4_firstBestAct (wsV RX4 42 RX4 yX4_bestOf wsX4_bestOf) := goodIn_app (goodIn_of _ (by decide +kernel)) ggX4_firstBestAct_X4_bestOf
set_option maxRecDepth 20000 in
theorem ggX4_firstBestAct_X4_bestByAct : GoodIn wsX4_firstBestAct wsX4_bestByAct := goodIn_r _ [10, 11, 12, 13, 14, 15, 16, 17, 18, 19, 20, 21, 22, 23, 24, 25, 26, 27, 28, 29, 30, 31, 32, 33, 34, 35, 36, 37, 38, 39, 40, 41, 42, 43, 44, 45, 46, 47, 48, 49, 50, 51, 52, 53, 54, 55, 56, 57, 58, 59, 60, 61, 62, 63, 64, 65, 66, 67, 68, 69, 1, 2, 3, 4, 5, 6, 72, 73, 74, 75, 76, 77, 70, 71] (by decide +kernel) (by decide +kernel)
set_option maxRecDepth 20000 in
theorem gX4_firstBestAct_X4_bestByAct : GoodIn wsX4_firstBestAct (wsV RX4 58 RX4 yX4_bestByAct wsX4_bestByAct) := goodIn_app (goodIn_of _ (by decide +kernel)) ggX4_firstBestAct_X4_bestByAct
theorem dX4_firstBestAct_0 : decode cX4_firstBestAct 0 = .ok (.aload_n 0, 1) := by decide +kernel
theorem dX4_firstBestAct_1 : decode cX4_firstBestAct 1 = .ok (.iload_n 3, 1) := by decide +kernel
theorem dX4_firstBestAct_2 : decode cX4_firstBestAct 2 = .ok (.iload_n 2, 1) := by decide +kernel
theorem dX4_firstBestAct_3 : decode cX4_firstBestAct 3 = .ok (.invokevirtual 42, 3) := by decide +kernel
theorem dX4_firstBestAct_6 : decode cX4_firstBestAct 6 = .ok (.lstore 4, 2) := by decide +kernel
theorem dX4_firstBestAct_8 : decode cX4_firstBestAct 8 = .ok (.iconst 0, 1) := by decide +kernel
theorem dX4_firstBestAct_9 : decode cX4_firstBestAct 9 = .ok (.istore 6, 2) := by decide +kernel
theorem dX4_firstBestAct_11 : decode cX4_firstBestAct 11 = .ok (.iload 6, 2) := by decide +kernel
theorem dX4_firstBestAct_13 : decode cX4_firstBestAct 13 = .ok (.iconst 3, 1) := by decide +kernel
theorem dX4_firstBestAct_14 : decode cX4_firstBestAct 14 = .ok (.if_icmp .gt 27, 3) := by decide +kernel
theorem dX4_firstBestAct_17 : decode cX4_firstBestAct 17 = .ok (.aload_n 0, 1) := by decide +kernel
theorem dX4_firstBestAct_18 : decode cX4_firstBestAct 18 = .ok (.aload_n 1, 1) := by decide +kernel
theorem dX4_firstBestAct_19 : decode cX4_firstBestAct 19 = .ok (.iload_n 2, 1) := by decide +kernel
theorem dX4_firstBestAct_20 : decode cX4_firstBestAct 20 = .ok (.iload 6, 2) := by decide +kernel
theorem dX4_firstBestAct_22 : decode cX4_firstBestAct 22 = .ok (.iload_n 3, 1) := by decide +kernel
theorem dX4_firstBestAct_23 : decode cX4_firstBestAct 23 = .ok (.invokevirtual 58, 3) := by decide +kernel
theorem dX4_firstBestAct_26 : decode cX4_firstBestAct 26 = .ok (.lload 4, 2) := by decide +kernel
theorem dX4_firstBestAct_28 : decode cX4_firstBestAct 28 = .ok (.lcmp, 1) := by decide +kernel
theorem dX4_firstBestAct_29 : decode cX4_firstBestAct 29 = .ok (.ifCond .ne 6, 3) := by decide +kernel
theorem dX4_firstBestAct_32 : decode cX4_firstBestAct 32 = .ok (.iload 6, 2) := by decide +kernel
theorem dX4_firstBestAct_34 : decode cX4_firstBestAct 34 = .ok (.ireturn, 1) := by decide +kernel
theorem dX4_firstBestAct_35 : decode cX4_firstBestAct 35 = .ok (.iinc 6 1, 3) := by decide +kernel
theorem dX4_firstBestAct_38 : decode cX4_firstBestAct 38 = .ok (.goto (-27), 3) := by decide +kernel
theorem dX4_firstBestAct_41 : decode cX4_firstBestAct 41 = .ok (.bipush (-9), 2) := by decide +kernel
theorem dX4_firstBestAct_43 : decode cX4_firstBestAct 43 = .ok (.ireturn, 1) := by decide +kernel
theorem dX5_init_0 : decode cX5_init 0 = .ok (.aload_n 0, 1) := by decide +kernel
theorem dX5_init_1 : decode cX5_init 1 = .ok (.invokespecial 3, 3) := by decide +kernel
theorem dX5_init_4 : decode cX5_init 4 = .ok (.return_, 1) := by decide +kernel
set_option maxRecDepth 20000 in
theorem ggX5_firstFault_X2_clear : GoodIn wsX5_firstFault wsX2_clear := goodIn_r _ [6, 7, 8, 66, 67, 68, 69, 70, 71] (by decide +kernel) (by decide +kernel)
set_option maxRecDepth 20000 in
theorem gX5_firstFault_X2_clear : GoodIn wsX5_firstFault (wsV RX5 9 RX2 yX2_clear wsX2_clear) := goodIn_app (goodIn_of _ (by decide +kernel)) ggX5_firstFault_X2_clear
set_option maxRecDepth 20000 in
theorem ggX5_firstFault_X3_at : GoodIn wsX5_firstFault wsX3_at := goodIn_r _ [13, 14, 15, 16, 17, 12, 18, 19, 72, 73, 74] (by decide +kernel) (by decide +kernel)
set_option maxRecDepth 20000 in
theorem gX5_firstFault_X3_at : GoodIn wsX5_firstFault (wsV RX5 20 RX3 yX3_at wsX3_at) := goodIn_app (goodIn_of _ (by decide +kernel)) ggX5_firstFault_X3_at
set_option maxRecDepth 20000 in
theorem ggX5_firstFault_X5_goesOn : GoodIn wsX5_firstFault wsX5_goesOn := goodIn_r _ [24, 1, 25, 26, 27, 23, 28, 29, 30, 31, 32, 33, 34, 35, 5, 36, 37, 38, 39, 40, 41, 7, 42, 43, 44, 45, 46, 47, 48, 49, 50, 51, 52, 53, 54, 55, 56, 57, 58, 59, 60, 61, 62, 63, 64, 65, 66, 67, 68, 69, 70, 71] (by decide +kernel) (by decide +kernel)
set_option maxRecDepth 20000 in
theorem gX5_firstFault_X5_goesOn : GoodIn wsX5_firstFault (wsV RX5 26 RX5 yX5_goesOn wsX5_goesOn) := goodIn_app (goodIn_of _ (by decide +kernel)) ggX5_firstFault_X5_goesOn
theorem dX5_firstFault_0 : decode cX5_firstFault 0 = .ok (.aload 4, 2) := by decide +kernel
theorem dX5_firstFault_2 : decode cX5_firstFault 2 = .ok (.invokevirtual 9, 3) := by decide +kernel
theorem dX5_firstFault_5 : decode cX5_firstFault 5 = .ok (.aload_n 0, 1) := by decide +kernel
theorem dX5_firstFault_6 : decode cX5_firstFault 6 = .ok (.iconst 0, 1) := by decide +kernel
theorem dX5_firstFault_7 : decode cX5_firstFault 7 = .ok (.putfield 16, 3) := by decide +kernel
theorem dX5_firstFault_10 : decode cX5_firstFault 10 = .ok (.iconst 0, 1) := by decide +kernel
theorem dX5_firstFault_11 : decode cX5_firstFault 11 = .ok (.istore 5, 2) := by decide +kernel
theorem dX5_firstFault_13 : decode cX5_firstFault 13 = .ok (.iload 5, 2) := by decide +kernel
theorem dX5_firstFault_15 : decode cX5_firstFault 15 = .ok (.iload_n 3, 1) := by decide +kernel
theorem dX5_firstFault_16 : decode cX5_firstFault 16 = .ok (.if_icmp .ge 29, 3) := by decide +kernel
theorem dX5_firstFault_19 : decode cX5_firstFault 19 = .ok (.aload_n 0, 1) := by decide +kernel
theorem dX5_firstFault_20 : decode cX5_firstFault 20 = .ok (.aload_n 1, 1) := by decide +kernel
theorem dX5_firstFault_21 : decode cX5_firstFault 21 = .ok (.iload_n 2, 1) := by decide +kernel
theorem dX5_firstFault_22 : decode cX5_firstFault 22 = .ok (.iload 5, 2) := by decide +kernel
theorem dX5_firstFault_24 : decode cX5_firstFault 24 = .ok (.iadd, 1) := by decide +kernel
theorem dX5_firstFault_25 : decode cX5_firstFault 25 = .ok (.invokevirtual 20, 3) := by decide +kernel
theorem dX5_firstFault_28 : decode cX5_firstFault 28 = .ok (.aload 4, 2) := by decide +kernel
theorem dX5_firstFault_30 : decode cX5_firstFault 30 = .ok (.invokevirtual 26, 3) := by decide +kernel
theorem dX5_firstFault_33 : decode cX5_firstFault 33 = .ok (.ifCond .ne 6, 3) := by decide +kernel
theorem dX5_firstFault_36 : decode cX5_firstFault 36 = .ok (.iload 5, 2) := by decide +kernel
theorem dX5_firstFault_38 : decode cX5_firstFault 38 = .ok (.ireturn, 1) := by decide +kernel
theorem dX5_firstFault_39 : decode cX5_firstFault 39 = .ok (.iinc 5 1, 3) := by decide +kernel
theorem dX5_firstFault_42 : decode cX5_firstFault 42 = .ok (.goto (-29), 3) := by decide +kernel
theorem dX5_firstFault_45 : decode cX5_firstFault 45 = .ok (.aload_n 0, 1) := by decide +kernel
theorem dX5_firstFault_46 : decode cX5_firstFault 46 = .ok (.getfield 16, 3) := by decide +kernel
theorem dX5_firstFault_49 : decode cX5_firstFault 49 = .ok (.iconst 4, 1) := by decide +kernel
theorem dX5_firstFault_50 : decode cX5_firstFault 50 = .ok (.if_icmp .eq 11, 3) := by decide +kernel
theorem dX5_firstFault_53 : decode cX5_firstFault 53 = .ok (.aload_n 0, 1) := by decide +kernel
theorem dX5_firstFault_54 : decode cX5_firstFault 54 = .ok (.getfield 16, 3) := by decide +kernel
theorem dX5_firstFault_57 : decode cX5_firstFault 57 = .ok (.iconst 5, 1) := by decide +kernel
theorem dX5_firstFault_58 : decode cX5_firstFault 58 = .ok (.if_icmp .ne 7, 3) := by decide +kernel
theorem dX5_firstFault_61 : decode cX5_firstFault 61 = .ok (.iconst 1, 1) := by decide +kernel
theorem dX5_firstFault_62 : decode cX5_firstFault 62 = .ok (.goto 4, 3) := by decide +kernel
theorem dX5_firstFault_65 : decode cX5_firstFault 65 = .ok (.iconst 0, 1) := by decide +kernel
theorem dX5_firstFault_66 : decode cX5_firstFault 66 = .ok (.istore 5, 2) := by decide +kernel
theorem dX5_firstFault_68 : decode cX5_firstFault 68 = .ok (.iload 5, 2) := by decide +kernel
theorem dX5_firstFault_70 : decode cX5_firstFault 70 = .ok (.ifCond .eq 17, 3) := by decide +kernel
theorem dX5_firstFault_73 : decode cX5_firstFault 73 = .ok (.aload 4, 2) := by decide +kernel
theorem dX5_firstFault_75 : decode cX5_firstFault 75 = .ok (.getfield 30, 3) := by decide +kernel
theorem dX5_firstFault_78 : decode cX5_firstFault 78 = .ok (.iconst 2, 1) := by decide +kernel
theorem dX5_firstFault_79 : decode cX5_firstFault 79 = .ok (.if_icmp .lt 8, 3) := by decide +kernel
theorem dX5_firstFault_82 : decode cX5_firstFault 82 = .ok (.bipush (-9), 2) := by decide +kernel
theorem dX5_firstFault_84 : decode cX5_firstFault 84 = .ok (.goto 4, 3) := by decide +kernel
theorem dX5_firstFault_87 : decode cX5_firstFault 87 = .ok (.iload_n 3, 1) := by decide +kernel
theorem dX5_firstFault_88 : decode cX5_firstFault 88 = .ok (.ireturn, 1) := by decide +kernel
set_option maxRecDepth 20000 in
theorem ggX5_goesOn_X5_goesOnByPace : GoodIn wsX5_goesOn wsX5_goesOnByPace := goodIn_r _ [6, 1, 46, 47, 48, 49, 50, 51, 45] (by decide +kernel) (by decide +kernel)
set_option maxRecDepth 20000 in
theorem gX5_goesOn_X5_goesOnByPace : GoodIn wsX5_goesOn (wsV RX5 33 RX5 yX5_goesOnByPace wsX5_goesOnByPace) := goodIn_app (goodIn_of _ (by decide +kernel)) ggX5_goesOn_X5_goesOnByPace
set_option maxRecDepth 20000 in
theorem ggX5_goesOn_X5_goesOnByMud : GoodIn wsX5_goesOn wsX5_goesOnByMud := goodIn_r _ [10, 1, 11, 12, 13, 14, 15, 16, 17, 18, 19, 20, 21, 46, 47, 48, 49, 50, 51, 45] (by decide +kernel) (by decide +kernel)
set_option maxRecDepth 20000 in
theorem gX5_goesOn_X5_goesOnByMud : GoodIn wsX5_goesOn (wsV RX5 36 RX5 yX5_goesOnByMud wsX5_goesOnByMud) := goodIn_app (goodIn_of _ (by decide +kernel)) ggX5_goesOn_X5_goesOnByMud
set_option maxRecDepth 20000 in
theorem ggX5_goesOn_X5_goesOnByBridge : GoodIn wsX5_goesOn wsX5_goesOnByBridge := goodIn_r _ [25, 1, 26, 27, 28, 14, 29, 30, 17, 18, 19, 20, 21, 46, 47, 48, 49, 50, 51, 45] (by decide +kernel) (by decide +kernel)
set_option maxRecDepth 20000 in
theorem gX5_goesOn_X5_goesOnByBridge : GoodIn wsX5_goesOn (wsV RX5 39 RX5 yX5_goesOnByBridge wsX5_goesOnByBridge) := goodIn_app (goodIn_of _ (by decide +kernel)) ggX5_goesOn_X5_goesOnByBridge
set_option maxRecDepth 20000 in
theorem ggX5_goesOn_X5_goesOnByLetter : GoodIn wsX5_goesOn wsX5_goesOnByLetter := goodIn_r _ [34, 35, 36, 37, 5, 38, 1, 39, 40, 41, 14, 42, 21, 43, 16, 44, 30, 46, 47, 48, 49, 50, 51, 45] (by decide +kernel) (by decide +kernel)
set_option maxRecDepth 20000 in
theorem gX5_goesOn_X5_goesOnByLetter : GoodIn wsX5_goesOn (wsV RX5 43 RX5 yX5_goesOnByLetter wsX5_goesOnByLetter) := goodIn_app (goodIn_of _ (by decide +kernel)) ggX5_goesOn_X5_goesOnByLetter
theorem dX5_goesOn_0 : decode cX5_goesOn 0 = .ok (.aload_n 0, 1) := by decide +kernel
theorem dX5_goesOn_1 : decode cX5_goesOn 1 = .ok (.getfield 16, 3) := by decide +kernel
theorem dX5_goesOn_4 : decode cX5_goesOn 4 = .ok (.tableswitch 94 0 4 #[36, 53, 94, 63, 73], 36) := by decide +kernel
theorem dX5_goesOn_40 : decode cX5_goesOn 40 = .ok (.aload_n 0, 1) := by decide +kernel
theorem dX5_goesOn_41 : decode cX5_goesOn 41 = .ok (.iconst 1, 1) := by decide +kernel
theorem dX5_goesOn_42 : decode cX5_goesOn 42 = .ok (.putfield 16, 3) := by decide +kernel
theorem dX5_goesOn_45 : decode cX5_goesOn 45 = .ok (.iload_n 1, 1) := by decide +kernel
theorem dX5_goesOn_46 : decode cX5_goesOn 46 = .ok (.bipush 112, 2) := by decide +kernel
theorem dX5_goesOn_48 : decode cX5_goesOn 48 = .ok (.if_icmp .ne 7, 3) := by decide +kernel
theorem dX5_goesOn_51 : decode cX5_goesOn 51 = .ok (.iconst 1, 1) := by decide +kernel
theorem dX5_goesOn_52 : decode cX5_goesOn 52 = .ok (.goto 4, 3) := by decide +kernel
theorem dX5_goesOn_55 : decode cX5_goesOn 55 = .ok (.iconst 0, 1) := by decide +kernel
theorem dX5_goesOn_56 : decode cX5_goesOn 56 = .ok (.ireturn, 1) := by decide +kernel
theorem dX5_goesOn_57 : decode cX5_goesOn 57 = .ok (.aload_n 0, 1) := by decide +kernel
theorem dX5_goesOn_58 : decode cX5_goesOn 58 = .ok (.iload_n 1, 1) := by decide +kernel
theorem dX5_goesOn_59 : decode cX5_goesOn 59 = .ok (.bipush 48, 2) := by decide +kernel
theorem dX5_goesOn_61 : decode cX5_goesOn 61 = .ok (.isub, 1) := by decide +kernel
theorem dX5_goesOn_62 : decode cX5_goesOn 62 = .ok (.aload_n 2, 1) := by decide +kernel
theorem dX5_goesOn_63 : decode cX5_goesOn 63 = .ok (.invokevirtual 33, 3) := by decide +kernel
theorem dX5_goesOn_66 : decode cX5_goesOn 66 = .ok (.ireturn, 1) := by decide +kernel
theorem dX5_goesOn_67 : decode cX5_goesOn 67 = .ok (.aload_n 0, 1) := by decide +kernel
theorem dX5_goesOn_68 : decode cX5_goesOn 68 = .ok (.iload_n 1, 1) := by decide +kernel
theorem dX5_goesOn_69 : decode cX5_goesOn 69 = .ok (.bipush 48, 2) := by decide +kernel
theorem dX5_goesOn_71 : decode cX5_goesOn 71 = .ok (.isub, 1) := by decide +kernel
theorem dX5_goesOn_72 : decode cX5_goesOn 72 = .ok (.aload_n 2, 1) := by decide +kernel
theorem dX5_goesOn_73 : decode cX5_goesOn 73 = .ok (.invokevirtual 36, 3) := by decide +kernel
theorem dX5_goesOn_76 : decode cX5_goesOn 76 = .ok (.ireturn, 1) := by decide +kernel
theorem dX5_goesOn_77 : decode cX5_goesOn 77 = .ok (.iload_n 1, 1) := by decide +kernel
theorem dX5_goesOn_78 : decode cX5_goesOn 78 = .ok (.bipush 94, 2) := by decide +kernel
theorem dX5_goesOn_80 : decode cX5_goesOn 80 = .ok (.if_icmp .ne 11, 3) := by decide +kernel
theorem dX5_goesOn_83 : decode cX5_goesOn 83 = .ok (.aload_n 0, 1) := by decide +kernel
theorem dX5_goesOn_84 : decode cX5_goesOn 84 = .ok (.aload_n 2, 1) := by decide +kernel
theorem dX5_goesOn_85 : decode cX5_goesOn 85 = .ok (.invokevirtual 39, 3) := by decide +kernel
theorem dX5_goesOn_88 : decode cX5_goesOn 88 = .ok (.goto 9, 3) := by decide +kernel
theorem dX5_goesOn_91 : decode cX5_goesOn 91 = .ok (.aload_n 0, 1) := by decide +kernel
theorem dX5_goesOn_92 : decode cX5_goesOn 92 = .ok (.iload_n 1, 1) := by decide +kernel
theorem dX5_goesOn_93 : decode cX5_goesOn 93 = .ok (.aload_n 2, 1) := by decide +kernel
theorem dX5_goesOn_94 : decode cX5_goesOn 94 = .ok (.invokevirtual 43, 3) := by decide +kernel
theorem dX5_goesOn_97 : decode cX5_goesOn 97 = .ok (.ireturn, 1) := by decide +kernel
theorem dX5_goesOn_98 : decode cX5_goesOn 98 = .ok (.aload_n 0, 1) := by decide +kernel
theorem dX5_goesOn_99 : decode cX5_goesOn 99 = .ok (.iload_n 1, 1) := by decide +kernel
theorem dX5_goesOn_100 : decode cX5_goesOn 100 = .ok (.aload_n 2, 1) := by decide +kernel
theorem dX5_goesOn_101 : decode cX5_goesOn 101 = .ok (.invokevirtual 43, 3) := by decide +kernel
theorem dX5_goesOn_104 : decode cX5_goesOn 104 = .ok (.ireturn, 1) := by decide +kernel
theorem dX5_goesOnByPace_0 : decode cX5_goesOnByPace 0 = .ok (.iload_n 1, 1) := by decide +kernel
theorem dX5_goesOnByPace_1 : decode cX5_goesOnByPace 1 = .ok (.ifCond .lt 8, 3) := by decide +kernel
theorem dX5_goesOnByPace_4 : decode cX5_goesOnByPace 4 = .ok (.iload_n 1, 1) := by decide +kernel
theorem dX5_goesOnByPace_5 : decode cX5_goesOnByPace 5 = .ok (.iconst 3, 1) := by decide +kernel
theorem dX5_goesOnByPace_6 : decode cX5_goesOnByPace 6 = .ok (.if_icmp .le 5, 3) := by decide +kernel
theorem dX5_goesOnByPace_9 : decode cX5_goesOnByPace 9 = .ok (.iconst 0, 1) := by decide +kernel
theorem dX5_goesOnByPace_10 : decode cX5_goesOnByPace 10 = .ok (.ireturn, 1) := by decide +kernel
theorem dX5_goesOnByPace_11 : decode cX5_goesOnByPace 11 = .ok (.aload_n 2, 1) := by decide +kernel
theorem dX5_goesOnByPace_12 : decode cX5_goesOnByPace 12 = .ok (.iload_n 1, 1) := by decide +kernel
theorem dX5_goesOnByPace_13 : decode cX5_goesOnByPace 13 = .ok (.putfield 46, 3) := by decide +kernel
theorem dX5_goesOnByPace_16 : decode cX5_goesOnByPace 16 = .ok (.aload_n 0, 1) := by decide +kernel
theorem dX5_goesOnByPace_17 : decode cX5_goesOnByPace 17 = .ok (.iconst 2, 1) := by decide +kernel
theorem dX5_goesOnByPace_18 : decode cX5_goesOnByPace 18 = .ok (.putfield 16, 3) := by decide +kernel
theorem dX5_goesOnByPace_21 : decode cX5_goesOnByPace 21 = .ok (.iconst 1, 1) := by decide +kernel
theorem dX5_goesOnByPace_22 : decode cX5_goesOnByPace 22 = .ok (.ireturn, 1) := by decide +kernel
set_option maxRecDepth 20000 in
theorem ggX5_goesOnByMud_X2_setMud : GoodIn wsX5_goesOnByMud wsX2_setMud := goodIn_r _ [6, 7, 8, 9, 10, 5, 11, 12, 13, 14, 15, 16, 17, 18] (by decide +kernel) (by decide +kernel)
set_option maxRecDepth 20000 in
theorem gX5_goesOnByMud_X2_setMud : GoodIn wsX5_goesOnByMud (wsV RX5 49 RX2 yX2_setMud wsX2_setMud) := goodIn_app (goodIn_of _ (by decide +kernel)) ggX5_goesOnByMud_X2_setMud
theorem dX5_goesOnByMud_0 : decode cX5_goesOnByMud 0 = .ok (.iload_n 1, 1) := by decide +kernel
theorem dX5_goesOnByMud_1 : decode cX5_goesOnByMud 1 = .ok (.ifCond .lt 9, 3) := by decide +kernel
theorem dX5_goesOnByMud_4 : decode cX5_goesOnByMud 4 = .ok (.iload_n 1, 1) := by decide +kernel
theorem dX5_goesOnByMud_5 : decode cX5_goesOnByMud 5 = .ok (.bipush 9, 2) := by decide +kernel
theorem dX5_goesOnByMud_7 : decode cX5_goesOnByMud 7 = .ok (.if_icmp .le 5, 3) := by decide +kernel
theorem dX5_goesOnByMud_10 : decode cX5_goesOnByMud 10 = .ok (.iconst 0, 1) := by decide +kernel
theorem dX5_goesOnByMud_11 : decode cX5_goesOnByMud 11 = .ok (.ireturn, 1) := by decide +kernel
theorem dX5_goesOnByMud_12 : decode cX5_goesOnByMud 12 = .ok (.aload_n 2, 1) := by decide +kernel
theorem dX5_goesOnByMud_13 : decode cX5_goesOnByMud 13 = .ok (.aload_n 2, 1) := by decide +kernel
theorem dX5_goesOnByMud_14 : decode cX5_goesOnByMud 14 = .ok (.getfield 30, 3) := by decide +kernel
theorem dX5_goesOnByMud_17 : decode cX5_goesOnByMud 17 = .ok (.iconst 1, 1) := by decide +kernel
theorem dX5_goesOnByMud_18 : decode cX5_goesOnByMud 18 = .ok (.isub, 1) := by decide +kernel
theorem dX5_goesOnByMud_19 : decode cX5_goesOnByMud 19 = .ok (.iload_n 1, 1) := by decide +kernel
theorem dX5_goesOnByMud_20 : decode cX5_goesOnByMud 20 = .ok (.invokevirtual 49, 3) := by decide +kernel
theorem dX5_goesOnByMud_23 : decode cX5_goesOnByMud 23 = .ok (.aload_n 0, 1) := by decide +kernel
theorem dX5_goesOnByMud_24 : decode cX5_goesOnByMud 24 = .ok (.iconst 4, 1) := by decide +kernel
theorem dX5_goesOnByMud_25 : decode cX5_goesOnByMud 25 = .ok (.putfield 16, 3) := by decide +kernel
theorem dX5_goesOnByMud_28 : decode cX5_goesOnByMud 28 = .ok (.iconst 1, 1) := by decide +kernel
theorem dX5_goesOnByMud_29 : decode cX5_goesOnByMud 29 = .ok (.ireturn, 1) := by decide +kernel
set_option maxRecDepth 20000 in
theorem ggX5_goesOnByBridge_X2_setBridged : GoodIn wsX5_goesOnByBridge wsX2_setBridged := goodIn_r _ [6, 7, 8, 9, 10, 5, 11, 12, 13, 14, 15, 16, 17, 18] (by decide +kernel) (by decide +kernel)
set_option maxRecDepth 20000 in
theorem gX5_goesOnByBridge_X2_setBridged : GoodIn wsX5_goesOnByBridge (wsV RX5 53 RX2 yX2_setBridged wsX2_setBridged) := goodIn_app (goodIn_of _ (by decide +kernel)) ggX5_goesOnByBridge_X2_setBridged
theorem dX5_goesOnByBridge_0 : decode cX5_goesOnByBridge 0 = .ok (.aload_n 1, 1) := by decide +kernel
theorem dX5_goesOnByBridge_1 : decode cX5_goesOnByBridge 1 = .ok (.aload_n 1, 1) := by decide +kernel
theorem dX5_goesOnByBridge_2 : decode cX5_goesOnByBridge 2 = .ok (.getfield 30, 3) := by decide +kernel
theorem dX5_goesOnByBridge_5 : decode cX5_goesOnByBridge 5 = .ok (.iconst 1, 1) := by decide +kernel
theorem dX5_goesOnByBridge_6 : decode cX5_goesOnByBridge 6 = .ok (.isub, 1) := by decide +kernel
theorem dX5_goesOnByBridge_7 : decode cX5_goesOnByBridge 7 = .ok (.iconst 1, 1) := by decide +kernel
theorem dX5_goesOnByBridge_8 : decode cX5_goesOnByBridge 8 = .ok (.invokevirtual 53, 3) := by decide +kernel
theorem dX5_goesOnByBridge_11 : decode cX5_goesOnByBridge 11 = .ok (.aload_n 0, 1) := by decide +kernel
theorem dX5_goesOnByBridge_12 : decode cX5_goesOnByBridge 12 = .ok (.iconst 5, 1) := by decide +kernel
theorem dX5_goesOnByBridge_13 : decode cX5_goesOnByBridge 13 = .ok (.putfield 16, 3) := by decide +kernel
theorem dX5_goesOnByBridge_16 : decode cX5_goesOnByBridge 16 = .ok (.iconst 1, 1) := by decide +kernel
theorem dX5_goesOnByBridge_17 : decode cX5_goesOnByBridge 17 = .ok (.ireturn, 1) := by decide +kernel
set_option maxRecDepth 20000 in
theorem ggX5_goesOnByLetter_X5_goesOnByCell : GoodIn wsX5_goesOnByLetter wsX5_goesOnByCell := goodIn_r _ [5, 6, 7, 8, 9, 10, 11, 12, 13, 14, 15, 16, 17, 18, 19, 20, 21, 22, 23] (by decide +kernel) (by decide +kernel)
set_option maxRecDepth 20000 in
theorem gX5_goesOnByLetter_X5_goesOnByCell : GoodIn wsX5_goesOnByLetter (wsV RX5 57 RX5 yX5_goesOnByCell wsX5_goesOnByCell) := goodIn_app (goodIn_of _ (by decide +kernel)) ggX5_goesOnByLetter_X5_goesOnByCell
theorem dX5_goesOnByLetter_0 : decode cX5_goesOnByLetter 0 = .ok (.iload_n 1, 1) := by decide +kernel
theorem dX5_goesOnByLetter_1 : decode cX5_goesOnByLetter 1 = .ok (.lookupswitch 75 #[(99, 59), (100, 67), (103, 43), (109, 51)], 43) := by decide +kernel
theorem dX5_goesOnByLetter_44 : decode cX5_goesOnByLetter 44 = .ok (.aload_n 0, 1) := by decide +kernel
theorem dX5_goesOnByLetter_45 : decode cX5_goesOnByLetter 45 = .ok (.iconst 0, 1) := by decide +kernel
theorem dX5_goesOnByLetter_46 : decode cX5_goesOnByLetter 46 = .ok (.iconst 0, 1) := by decide +kernel
theorem dX5_goesOnByLetter_47 : decode cX5_goesOnByLetter 47 = .ok (.aload_n 2, 1) := by decide +kernel
theorem dX5_goesOnByLetter_48 : decode cX5_goesOnByLetter 48 = .ok (.invokevirtual 57, 3) := by decide +kernel
theorem dX5_goesOnByLetter_51 : decode cX5_goesOnByLetter 51 = .ok (.ireturn, 1) := by decide +kernel
theorem dX5_goesOnByLetter_52 : decode cX5_goesOnByLetter 52 = .ok (.aload_n 0, 1) := by decide +kernel
theorem dX5_goesOnByLetter_53 : decode cX5_goesOnByLetter 53 = .ok (.iconst 1, 1) := by decide +kernel
theorem dX5_goesOnByLetter_54 : decode cX5_goesOnByLetter 54 = .ok (.iconst 0, 1) := by decide +kernel
theorem dX5_goesOnByLetter_55 : decode cX5_goesOnByLetter 55 = .ok (.aload_n 2, 1) := by decide +kernel
theorem dX5_goesOnByLetter_56 : decode cX5_goesOnByLetter 56 = .ok (.invokevirtual 57, 3) := by decide +kernel
theorem dX5_goesOnByLetter_59 : decode cX5_goesOnByLetter 59 = .ok (.ireturn, 1) := by decide +kernel
theorem dX5_goesOnByLetter_60 : decode cX5_goesOnByLetter 60 = .ok (.aload_n 0, 1) := by decide +kernel
theorem dX5_goesOnByLetter_61 : decode cX5_goesOnByLetter 61 = .ok (.iconst 2, 1) := by decide +kernel
theorem dX5_goesOnByLetter_62 : decode cX5_goesOnByLetter 62 = .ok (.iconst 0, 1) := by decide +kernel
theorem dX5_goesOnByLetter_63 : decode cX5_goesOnByLetter 63 = .ok (.aload_n 2, 1) := by decide +kernel
theorem dX5_goesOnByLetter_64 : decode cX5_goesOnByLetter 64 = .ok (.invokevirtual 57, 3) := by decide +kernel
theorem dX5_goesOnByLetter_67 : decode cX5_goesOnByLetter 67 = .ok (.ireturn, 1) := by decide +kernel
theorem dX5_goesOnByLetter_68 : decode cX5_goesOnByLetter 68 = .ok (.aload_n 0, 1) := by decide +kernel
theorem dX5_goesOnByLetter_69 : decode cX5_goesOnByLetter 69 = .ok (.iconst 0, 1) := by decide +kernel
theorem dX5_goesOnByLetter_70 : decode cX5_goesOnByLetter 70 = .ok (.iconst 1, 1) := by decide +kernel
theorem dX5_goesOnByLetter_71 : decode cX5_goesOnByLetter 71 = .ok (.aload_n 2, 1) := by decide +kernel
theorem dX5_goesOnByLetter_72 : decode cX5_goesOnByLetter 72 = .ok (.invokevirtual 57, 3) := by decide +kernel
theorem dX5_goesOnByLetter_75 : decode cX5_goesOnByLetter 75 = .ok (.ireturn, 1) := by decide +kernel
theorem dX5_goesOnByLetter_76 : decode cX5_goesOnByLetter 76 = .ok (.iconst 0, 1) := by decide +kernel
theorem dX5_goesOnByLetter_77 : decode cX5_goesOnByLetter 77 = .ok (.ireturn, 1) := by decide +kernel
set_option maxRecDepth 20000 in
theorem ggX5_goesOnByCell_X2_add : GoodIn wsX5_goesOnByCell wsX2_add := goodIn_r _ [6, 7, 8, 9, 10, 11, 12, 13, 14, 15, 16, 17] (by decide +kernel) (by decide +kernel)
set_option maxRecDepth 20000 in
theorem gX5_goesOnByCell_X2_add : GoodIn wsX5_goesOnByCell (wsV RX5 61 RX2 yX2_add wsX2_add) := goodIn_app (goodIn_of _ (by decide +kernel)) ggX5_goesOnByCell_X2_add
theorem dX5_goesOnByCell_0 : decode cX5_goesOnByCell 0 = .ok (.aload_n 3, 1) := by decide +kernel
theorem dX5_goesOnByCell_1 : decode cX5_goesOnByCell 1 = .ok (.getfield 30, 3) := by decide +kernel
theorem dX5_goesOnByCell_4 : decode cX5_goesOnByCell 4 = .ok (.bipush 16, 2) := by decide +kernel
theorem dX5_goesOnByCell_6 : decode cX5_goesOnByCell 6 = .ok (.if_icmp .lt 5, 3) := by decide +kernel
theorem dX5_goesOnByCell_9 : decode cX5_goesOnByCell 9 = .ok (.iconst 0, 1) := by decide +kernel
theorem dX5_goesOnByCell_10 : decode cX5_goesOnByCell 10 = .ok (.ireturn, 1) := by decide +kernel
theorem dX5_goesOnByCell_11 : decode cX5_goesOnByCell 11 = .ok (.aload_n 3, 1) := by decide +kernel
theorem dX5_goesOnByCell_12 : decode cX5_goesOnByCell 12 = .ok (.iload_n 1, 1) := by decide +kernel
theorem dX5_goesOnByCell_13 : decode cX5_goesOnByCell 13 = .ok (.iload_n 2, 1) := by decide +kernel
theorem dX5_goesOnByCell_14 : decode cX5_goesOnByCell 14 = .ok (.invokevirtual 61, 3) := by decide +kernel
theorem dX5_goesOnByCell_17 : decode cX5_goesOnByCell 17 = .ok (.aload_n 0, 1) := by decide +kernel
theorem dX5_goesOnByCell_18 : decode cX5_goesOnByCell 18 = .ok (.iload_n 2, 1) := by decide +kernel
theorem dX5_goesOnByCell_19 : decode cX5_goesOnByCell 19 = .ok (.ifCond .eq 7, 3) := by decide +kernel
theorem dX5_goesOnByCell_22 : decode cX5_goesOnByCell 22 = .ok (.iconst 4, 1) := by decide +kernel
theorem dX5_goesOnByCell_23 : decode cX5_goesOnByCell 23 = .ok (.goto 4, 3) := by decide +kernel
theorem dX5_goesOnByCell_26 : decode cX5_goesOnByCell 26 = .ok (.iconst 3, 1) := by decide +kernel
theorem dX5_goesOnByCell_27 : decode cX5_goesOnByCell 27 = .ok (.putfield 16, 3) := by decide +kernel
theorem dX5_goesOnByCell_30 : decode cX5_goesOnByCell 30 = .ok (.iconst 1, 1) := by decide +kernel
theorem dX5_goesOnByCell_31 : decode cX5_goesOnByCell 31 = .ok (.ireturn, 1) := by decide +kernel
theorem dX6_init_0 : decode cX6_init 0 = .ok (.aload_n 0, 1) := by decide +kernel
theorem dX6_init_1 : decode cX6_init 1 = .ok (.invokespecial 3, 3) := by decide +kernel
theorem dX6_init_4 : decode cX6_init 4 = .ok (.aload_n 0, 1) := by decide +kernel
theorem dX6_init_5 : decode cX6_init 5 = .ok (.sipush 512, 3) := by decide +kernel
theorem dX6_init_8 : decode cX6_init 8 = .ok (.newarray .int, 2) := by decide +kernel
theorem dX6_init_10 : decode cX6_init 10 = .ok (.putfield 9, 3) := by decide +kernel
theorem dX6_init_13 : decode cX6_init 13 = .ok (.return_, 1) := by decide +kernel
set_option maxRecDepth 20000 in
theorem ggX6_fill_J7_fill_53178 : GoodIn wsX6_fill wsJ7_fill_53178 := goodIn_r _ [9] (by decide +kernel) (by decide +kernel)
set_option maxRecDepth 20000 in
theorem gX6_fill_J7_fill_53178 : GoodIn wsX6_fill (va_wsS RX6 15 yJ7_fill_53178 wsJ7_fill_53178) := goodIn_app (goodIn_of _ (by decide +kernel)) ggX6_fill_J7_fill_53178
set_option maxRecDepth 20000 in
theorem ggX6_fill_X2_spots : GoodIn wsX6_fill wsX2_spots := goodIn_r _ [14, 15, 68, 69, 70, 71, 72, 73] (by decide +kernel) (by decide +kernel)
set_option maxRecDepth 20000 in
theorem gX6_fill_X2_spots : GoodIn wsX6_fill (wsV RX6 27 RX2 yX2_spots wsX2_spots) := goodIn_app (goodIn_of _ (by decide +kernel)) ggX6_fill_X2_spots
set_option maxRecDepth 20000 in
theorem ggX6_fill_X7_cellOf : GoodIn wsX6_fill wsX7_cellOf := goodIn_r _ [18] (by decide +kernel) (by decide +kernel)
set_option maxRecDepth 20000 in
theorem gX6_fill_X7_cellOf_n33 : GoodIn wsX6_fill (wsX7_cellOf) := ggX6_fill_X7_cellOf
set_option maxRecDepth 20000 in
theorem ggX6_fill_X1_allow : GoodIn wsX6_fill wsX1_allow := goodIn_r _ [23, 24, 25, 26, 74, 75, 76] (by decide +kernel) (by decide +kernel)
set_option maxRecDepth 20000 in
theorem gX6_fill_X1_allow : GoodIn wsX6_fill (wsV RX6 37 RX1 yX1_allow wsX1_allow) := goodIn_app (goodIn_of _ (by decide +kernel)) ggX6_fill_X1_allow
set_option maxRecDepth 20000 in
theorem ggX6_fill_X6_waysByAnyAct : GoodIn wsX6_fill wsX6_waysByAnyAct := goodIn_r _ [31, 32, 33, 34, 13, 35, 36, 3, 4, 5, 16, 17, 18, 37, 38, 39, 40, 15, 41, 42, 43, 44, 45, 46, 47, 48, 49, 50, 51, 52, 53, 54, 55, 56, 57, 58, 59, 60, 61, 62, 63, 64, 65, 30, 66, 1, 68, 69, 70, 71, 72, 73, 67] (by decide +kernel) (by decide +kernel)
set_option maxRecDepth 20000 in
theorem gX6_fill_X6_waysByAnyAct : GoodIn wsX6_fill (wsV RX6 43 RX6 yX6_waysByAnyAct wsX6_waysByAnyAct) := goodIn_app (goodIn_of _ (by decide +kernel)) ggX6_fill_X6_waysByAnyAct
theorem dX6_fill_0 : decode cX6_fill 0 = .ok (.aload_n 0, 1) := by decide +kernel
theorem dX6_fill_1 : decode cX6_fill 1 = .ok (.getfield 9, 3) := by decide +kernel
theorem dX6_fill_4 : decode cX6_fill 4 = .ok (.iconst 0, 1) := by decide +kernel
theorem dX6_fill_5 : decode cX6_fill 5 = .ok (.invokestatic 15, 3) := by decide +kernel
theorem dX6_fill_8 : decode cX6_fill 8 = .ok (.iload_n 3, 1) := by decide +kernel
theorem dX6_fill_9 : decode cX6_fill 9 = .ok (.bipush 7, 2) := by decide +kernel
theorem dX6_fill_11 : decode cX6_fill 11 = .ok (.invokestatic 21, 3) := by decide +kernel
theorem dX6_fill_14 : decode cX6_fill 14 = .ok (.istore 4, 2) := by decide +kernel
theorem dX6_fill_16 : decode cX6_fill 16 = .ok (.iload 4, 2) := by decide +kernel
theorem dX6_fill_18 : decode cX6_fill 18 = .ok (.ifCond .lt 80, 3) := by decide +kernel
theorem dX6_fill_21 : decode cX6_fill 21 = .ok (.iconst 0, 1) := by decide +kernel
theorem dX6_fill_22 : decode cX6_fill 22 = .ok (.istore 5, 2) := by decide +kernel
theorem dX6_fill_24 : decode cX6_fill 24 = .ok (.iload 5, 2) := by decide +kernel
theorem dX6_fill_26 : decode cX6_fill 26 = .ok (.aload_n 1, 1) := by decide +kernel
theorem dX6_fill_27 : decode cX6_fill 27 = .ok (.invokevirtual 27, 3) := by decide +kernel
theorem dX6_fill_30 : decode cX6_fill 30 = .ok (.if_icmp .ge 62, 3) := by decide +kernel
theorem dX6_fill_33 : decode cX6_fill 33 = .ok (.iload 5, 2) := by decide +kernel
theorem dX6_fill_35 : decode cX6_fill 35 = .ok (.bipush 64, 2) := by decide +kernel
theorem dX6_fill_37 : decode cX6_fill 37 = .ok (.if_icmp .ge 55, 3) := by decide +kernel
theorem dX6_fill_40 : decode cX6_fill 40 = .ok (.aload_n 2, 1) := by decide +kernel
theorem dX6_fill_41 : decode cX6_fill 41 = .ok (.iload 4, 2) := by decide +kernel
theorem dX6_fill_43 : decode cX6_fill 43 = .ok (.iload 5, 2) := by decide +kernel
theorem dX6_fill_45 : decode cX6_fill 45 = .ok (.invokestatic 33, 3) := by decide +kernel
theorem dX6_fill_48 : decode cX6_fill 48 = .ok (.invokevirtual 37, 3) := by decide +kernel
theorem dX6_fill_51 : decode cX6_fill 51 = .ok (.ifCond .eq 35, 3) := by decide +kernel
theorem dX6_fill_54 : decode cX6_fill 54 = .ok (.aload_n 0, 1) := by decide +kernel
theorem dX6_fill_55 : decode cX6_fill 55 = .ok (.getfield 9, 3) := by decide +kernel
theorem dX6_fill_58 : decode cX6_fill 58 = .ok (.iload 4, 2) := by decide +kernel
theorem dX6_fill_60 : decode cX6_fill 60 = .ok (.bipush 64, 2) := by decide +kernel
theorem dX6_fill_62 : decode cX6_fill 62 = .ok (.imul, 1) := by decide +kernel
theorem dX6_fill_63 : decode cX6_fill 63 = .ok (.iload 5, 2) := by decide +kernel
theorem dX6_fill_65 : decode cX6_fill 65 = .ok (.iadd, 1) := by decide +kernel
theorem dX6_fill_66 : decode cX6_fill 66 = .ok (.iload 4, 2) := by decide +kernel
theorem dX6_fill_68 : decode cX6_fill 68 = .ok (.iload_n 3, 1) := by decide +kernel
theorem dX6_fill_69 : decode cX6_fill 69 = .ok (.if_icmp .ne 7, 3) := by decide +kernel
theorem dX6_fill_72 : decode cX6_fill 72 = .ok (.iconst 1, 1) := by decide +kernel
theorem dX6_fill_73 : decode cX6_fill 73 = .ok (.goto 12, 3) := by decide +kernel
theorem dX6_fill_76 : decode cX6_fill 76 = .ok (.aload_n 0, 1) := by decide +kernel
theorem dX6_fill_77 : decode cX6_fill 77 = .ok (.aload_n 1, 1) := by decide +kernel
theorem dX6_fill_78 : decode cX6_fill 78 = .ok (.iload 4, 2) := by decide +kernel
theorem dX6_fill_80 : decode cX6_fill 80 = .ok (.iload 5, 2) := by decide +kernel
theorem dX6_fill_82 : decode cX6_fill 82 = .ok (.invokevirtual 43, 3) := by decide +kernel
theorem dX6_fill_85 : decode cX6_fill 85 = .ok (.iastore, 1) := by decide +kernel
theorem dX6_fill_86 : decode cX6_fill 86 = .ok (.iinc 5 1, 3) := by decide +kernel
theorem dX6_fill_89 : decode cX6_fill 89 = .ok (.goto (-65), 3) := by decide +kernel
theorem dX6_fill_92 : decode cX6_fill 92 = .ok (.iinc 4 (-1), 3) := by decide +kernel
theorem dX6_fill_95 : decode cX6_fill 95 = .ok (.goto (-79), 3) := by decide +kernel
theorem dX6_fill_98 : decode cX6_fill 98 = .ok (.return_, 1) := by decide +kernel
theorem dX6_waysFrom_0 : decode cX6_waysFrom 0 = .ok (.iload_n 1, 1) := by decide +kernel
theorem dX6_waysFrom_1 : decode cX6_waysFrom 1 = .ok (.bipush 64, 2) := by decide +kernel
theorem dX6_waysFrom_3 : decode cX6_waysFrom 3 = .ok (.imul, 1) := by decide +kernel
theorem dX6_waysFrom_4 : decode cX6_waysFrom 4 = .ok (.iload_n 2, 1) := by decide +kernel
theorem dX6_waysFrom_5 : decode cX6_waysFrom 5 = .ok (.iadd, 1) := by decide +kernel
theorem dX6_waysFrom_6 : decode cX6_waysFrom 6 = .ok (.istore_n 3, 1) := by decide +kernel
theorem dX6_waysFrom_7 : decode cX6_waysFrom 7 = .ok (.iload_n 1, 1) := by decide +kernel
theorem dX6_waysFrom_8 : decode cX6_waysFrom 8 = .ok (.ifCond .lt 26, 3) := by decide +kernel
theorem dX6_waysFrom_11 : decode cX6_waysFrom 11 = .ok (.iload_n 2, 1) := by decide +kernel
theorem dX6_waysFrom_12 : decode cX6_waysFrom 12 = .ok (.ifCond .lt 22, 3) := by decide +kernel
theorem dX6_waysFrom_15 : decode cX6_waysFrom 15 = .ok (.iload_n 2, 1) := by decide +kernel
theorem dX6_waysFrom_16 : decode cX6_waysFrom 16 = .ok (.bipush 64, 2) := by decide +kernel
theorem dX6_waysFrom_18 : decode cX6_waysFrom 18 = .ok (.if_icmp .ge 16, 3) := by decide +kernel
theorem dX6_waysFrom_21 : decode cX6_waysFrom 21 = .ok (.iload_n 3, 1) := by decide +kernel
theorem dX6_waysFrom_22 : decode cX6_waysFrom 22 = .ok (.aload_n 0, 1) := by decide +kernel
theorem dX6_waysFrom_23 : decode cX6_waysFrom 23 = .ok (.getfield 9, 3) := by decide +kernel
theorem dX6_waysFrom_26 : decode cX6_waysFrom 26 = .ok (.arraylength, 1) := by decide +kernel
theorem dX6_waysFrom_27 : decode cX6_waysFrom 27 = .ok (.if_icmp .ge 7, 3) := by decide +kernel
theorem dX6_waysFrom_30 : decode cX6_waysFrom 30 = .ok (.iconst 1, 1) := by decide +kernel
theorem dX6_waysFrom_31 : decode cX6_waysFrom 31 = .ok (.goto 4, 3) := by decide +kernel
theorem dX6_waysFrom_34 : decode cX6_waysFrom 34 = .ok (.iconst 0, 1) := by decide +kernel
theorem dX6_waysFrom_35 : decode cX6_waysFrom 35 = .ok (.istore 4, 2) := by decide +kernel
theorem dX6_waysFrom_37 : decode cX6_waysFrom 37 = .ok (.iload 4, 2) := by decide +kernel
theorem dX6_waysFrom_39 : decode cX6_waysFrom 39 = .ok (.ifCond .eq 12, 3) := by decide +kernel
theorem dX6_waysFrom_42 : decode cX6_waysFrom 42 = .ok (.aload_n 0, 1) := by decide +kernel
theorem dX6_waysFrom_43 : decode cX6_waysFrom 43 = .ok (.getfield 9, 3) := by decide +kernel
theorem dX6_waysFrom_46 : decode cX6_waysFrom 46 = .ok (.iload_n 3, 1) := by decide +kernel
theorem dX6_waysFrom_47 : decode cX6_waysFrom 47 = .ok (.iaload, 1) := by decide +kernel
theorem dX6_waysFrom_48 : decode cX6_waysFrom 48 = .ok (.goto 4, 3) := by decide +kernel
theorem dX6_waysFrom_51 : decode cX6_waysFrom 51 = .ok (.iconst 0, 1) := by decide +kernel
theorem dX6_waysFrom_52 : decode cX6_waysFrom 52 = .ok (.ireturn, 1) := by decide +kernel
set_option maxRecDepth 20000 in
theorem ggX6_actOf_X2_start : GoodIn wsX6_actOf wsX2_start := goodIn_r _ [5, 6, 55, 56, 57, 58, 59, 60] (by decide +kernel) (by decide +kernel)
set_option maxRecDepth 20000 in
theorem gX6_actOf_X2_start : GoodIn wsX6_actOf (wsV RX6 47 RX2 yX2_start wsX2_start) := goodIn_app (goodIn_of _ (by decide +kernel)) ggX6_actOf_X2_start
set_option maxRecDepth 20000 in
theorem ggX6_actOf_X6_firstActWithWays : GoodIn wsX6_actOf wsX6_firstActWithWays := goodIn_r _ [11, 12, 13, 14, 4, 15, 16, 17, 18, 19, 20, 21, 22, 23, 24, 25, 26, 27, 28, 29, 30, 31, 32, 33, 34, 35, 36, 37, 38, 39, 40, 41, 42, 43, 44, 45, 46, 47, 48, 49, 50, 51, 52, 10, 53, 54, 55, 56, 57, 58, 59, 60, 61] (by decide +kernel) (by decide +kernel)
set_option maxRecDepth 20000 in
theorem gX6_actOf_X6_firstActWithWays : GoodIn wsX6_actOf (wsV RX6 50 RX6 yX6_firstActWithWays wsX6_firstActWithWays) := goodIn_app (goodIn_of _ (by decide +kernel)) ggX6_actOf_X6_firstActWithWays
set_option maxRecDepth 20000 in
theorem ggX6_actOf_X2_after : GoodIn wsX6_actOf wsX2_after := goodIn_r _ [15, 16, 17, 18, 19, 20, 21, 22, 23, 24, 25, 4, 26, 27, 28, 29, 30, 31, 32, 33, 34, 35, 36, 37, 38, 39, 40, 41, 42, 43, 44, 45, 46, 47, 48, 49, 55, 56, 57, 58, 59, 60] (by decide +kernel) (by decide +kernel)
set_option maxRecDepth 20000 in
theorem gX6_actOf_X2_after : GoodIn wsX6_actOf (wsV RX6 53 RX2 yX2_after wsX2_after) := goodIn_app (goodIn_of _ (by decide +kernel)) ggX6_actOf_X2_after
theorem dX6_actOf_0 : decode cX6_actOf 0 = .ok (.aload_n 1, 1) := by decide +kernel
theorem dX6_actOf_1 : decode cX6_actOf 1 = .ok (.invokevirtual 47, 3) := by decide +kernel
theorem dX6_actOf_4 : decode cX6_actOf 4 = .ok (.istore 4, 2) := by decide +kernel
theorem dX6_actOf_6 : decode cX6_actOf 6 = .ok (.iconst 0, 1) := by decide +kernel
theorem dX6_actOf_7 : decode cX6_actOf 7 = .ok (.istore 5, 2) := by decide +kernel
theorem dX6_actOf_9 : decode cX6_actOf 9 = .ok (.iload 5, 2) := by decide +kernel
theorem dX6_actOf_11 : decode cX6_actOf 11 = .ok (.iload_n 2, 1) := by decide +kernel
theorem dX6_actOf_12 : decode cX6_actOf 12 = .ok (.if_icmp .ge 39, 3) := by decide +kernel
theorem dX6_actOf_15 : decode cX6_actOf 15 = .ok (.aload_n 0, 1) := by decide +kernel
theorem dX6_actOf_16 : decode cX6_actOf 16 = .ok (.aload_n 1, 1) := by decide +kernel
theorem dX6_actOf_17 : decode cX6_actOf 17 = .ok (.iload 5, 2) := by decide +kernel
theorem dX6_actOf_19 : decode cX6_actOf 19 = .ok (.iload 4, 2) := by decide +kernel
theorem dX6_actOf_21 : decode cX6_actOf 21 = .ok (.invokevirtual 50, 3) := by decide +kernel
theorem dX6_actOf_24 : decode cX6_actOf 24 = .ok (.istore 6, 2) := by decide +kernel
theorem dX6_actOf_26 : decode cX6_actOf 26 = .ok (.iload 5, 2) := by decide +kernel
theorem dX6_actOf_28 : decode cX6_actOf 28 = .ok (.iload_n 3, 1) := by decide +kernel
theorem dX6_actOf_29 : decode cX6_actOf 29 = .ok (.if_icmp .ne 6, 3) := by decide +kernel
theorem dX6_actOf_32 : decode cX6_actOf 32 = .ok (.iload 6, 2) := by decide +kernel
theorem dX6_actOf_34 : decode cX6_actOf 34 = .ok (.ireturn, 1) := by decide +kernel
theorem dX6_actOf_35 : decode cX6_actOf 35 = .ok (.aload_n 1, 1) := by decide +kernel
theorem dX6_actOf_36 : decode cX6_actOf 36 = .ok (.iload 4, 2) := by decide +kernel
theorem dX6_actOf_38 : decode cX6_actOf 38 = .ok (.iload 6, 2) := by decide +kernel
theorem dX6_actOf_40 : decode cX6_actOf 40 = .ok (.invokevirtual 53, 3) := by decide +kernel
theorem dX6_actOf_43 : decode cX6_actOf 43 = .ok (.istore 4, 2) := by decide +kernel
theorem dX6_actOf_45 : decode cX6_actOf 45 = .ok (.iinc 5 1, 3) := by decide +kernel
theorem dX6_actOf_48 : decode cX6_actOf 48 = .ok (.goto (-39), 3) := by decide +kernel
theorem dX6_actOf_51 : decode cX6_actOf 51 = .ok (.bipush (-9), 2) := by decide +kernel
theorem dX6_actOf_53 : decode cX6_actOf 53 = .ok (.ireturn, 1) := by decide +kernel
set_option maxRecDepth 20000 in
theorem ggX6_waysByAnyAct_X2_after : GoodIn wsX6_waysByAnyAct wsX2_after := goodIn_r _ [5, 6, 7, 8, 9, 10, 11, 12, 13, 14, 15, 4, 16, 17, 18, 19, 20, 21, 22, 23, 24, 25, 26, 27, 28, 29, 30, 31, 32, 33, 34, 35, 36, 37, 38, 39, 46, 47, 48, 49, 50, 51] (by decide +kernel) (by decide +kernel)
set_option maxRecDepth 20000 in
theorem gX6_waysByAnyAct_X2_after : GoodIn wsX6_waysByAnyAct (wsV RX6 53 RX2 yX2_after wsX2_after) := goodIn_app (goodIn_of _ (by decide +kernel)) ggX6_waysByAnyAct_X2_after
set_option maxRecDepth 20000 in
theorem ggX6_waysByAnyAct_X6_waysFrom : GoodIn wsX6_waysByAnyAct wsX6_waysFrom := goodIn_r _ [44, 45, 52] (by decide +kernel) (by decide +kernel)
set_option maxRecDepth 20000 in
theorem gX6_waysByAnyAct_X6_waysFrom : GoodIn wsX6_waysByAnyAct (wsV RX6 56 RX6 yX6_waysFrom wsX6_waysFrom) := goodIn_app (goodIn_of _ (by decide +kernel)) ggX6_waysByAnyAct_X6_waysFrom
theorem dX6_waysByAnyAct_0 : decode cX6_waysByAnyAct 0 = .ok (.iconst 0, 1) := by decide +kernel
theorem dX6_waysByAnyAct_1 : decode cX6_waysByAnyAct 1 = .ok (.istore 4, 2) := by decide +kernel
theorem dX6_waysByAnyAct_3 : decode cX6_waysByAnyAct 3 = .ok (.iconst 0, 1) := by decide +kernel
theorem dX6_waysByAnyAct_4 : decode cX6_waysByAnyAct 4 = .ok (.istore 5, 2) := by decide +kernel
theorem dX6_waysByAnyAct_6 : decode cX6_waysByAnyAct 6 = .ok (.iload 5, 2) := by decide +kernel
theorem dX6_waysByAnyAct_8 : decode cX6_waysByAnyAct 8 = .ok (.iconst 3, 1) := by decide +kernel
theorem dX6_waysByAnyAct_9 : decode cX6_waysByAnyAct 9 = .ok (.if_icmp .gt 28, 3) := by decide +kernel
theorem dX6_waysByAnyAct_12 : decode cX6_waysByAnyAct 12 = .ok (.iload 4, 2) := by decide +kernel
theorem dX6_waysByAnyAct_14 : decode cX6_waysByAnyAct 14 = .ok (.aload_n 0, 1) := by decide +kernel
theorem dX6_waysByAnyAct_15 : decode cX6_waysByAnyAct 15 = .ok (.iload_n 2, 1) := by decide +kernel
theorem dX6_waysByAnyAct_16 : decode cX6_waysByAnyAct 16 = .ok (.iconst 1, 1) := by decide +kernel
theorem dX6_waysByAnyAct_17 : decode cX6_waysByAnyAct 17 = .ok (.iadd, 1) := by decide +kernel
theorem dX6_waysByAnyAct_18 : decode cX6_waysByAnyAct 18 = .ok (.aload_n 1, 1) := by decide +kernel
theorem dX6_waysByAnyAct_19 : decode cX6_waysByAnyAct 19 = .ok (.iload_n 3, 1) := by decide +kernel
theorem dX6_waysByAnyAct_20 : decode cX6_waysByAnyAct 20 = .ok (.iload 5, 2) := by decide +kernel
theorem dX6_waysByAnyAct_22 : decode cX6_waysByAnyAct 22 = .ok (.invokevirtual 53, 3) := by decide +kernel
theorem dX6_waysByAnyAct_25 : decode cX6_waysByAnyAct 25 = .ok (.invokevirtual 56, 3) := by decide +kernel
theorem dX6_waysByAnyAct_28 : decode cX6_waysByAnyAct 28 = .ok (.iadd, 1) := by decide +kernel
theorem dX6_waysByAnyAct_29 : decode cX6_waysByAnyAct 29 = .ok (.istore 4, 2) := by decide +kernel
theorem dX6_waysByAnyAct_31 : decode cX6_waysByAnyAct 31 = .ok (.iinc 5 1, 3) := by decide +kernel
theorem dX6_waysByAnyAct_34 : decode cX6_waysByAnyAct 34 = .ok (.goto (-28), 3) := by decide +kernel
theorem dX6_waysByAnyAct_37 : decode cX6_waysByAnyAct 37 = .ok (.iload 4, 2) := by decide +kernel
theorem dX6_waysByAnyAct_39 : decode cX6_waysByAnyAct 39 = .ok (.ireturn, 1) := by decide +kernel
set_option maxRecDepth 20000 in
theorem ggX6_firstActWithWays_X2_after : GoodIn wsX6_firstActWithWays wsX2_after := goodIn_r _ [5, 6, 7, 8, 9, 10, 11, 12, 13, 14, 15, 4, 16, 17, 18, 19, 20, 21, 22, 23, 24, 25, 26, 27, 28, 29, 30, 31, 32, 33, 34, 35, 36, 37, 38, 39, 46, 47, 48, 49, 50, 51] (by decide +kernel) (by decide +kernel)
set_option maxRecDepth 20000 in
theorem gX6_firstActWithWays_X2_after : GoodIn wsX6_firstActWithWays (wsV RX6 53 RX2 yX2_after wsX2_after) := goodIn_app (goodIn_of _ (by decide +kernel)) ggX6_firstActWithWays_X2_after
set_option maxRecDepth 20000 in
theorem ggX6_firstActWithWays_X6_waysFrom : GoodIn wsX6_firstActWithWays wsX6_waysFrom := goodIn_r _ [44, 45, 52] (by decide +kernel) (by decide +kernel)
set_option maxRecDepth 20000 in
theorem gX6_firstActWithWays_X6_waysFrom : GoodIn wsX6_firstActWithWays (wsV RX6 56 RX6 yX6_waysFrom wsX6_waysFrom) := goodIn_app (goodIn_of _ (by decide +kernel)) ggX6_firstActWithWays_X6_waysFrom
theorem dX6_firstActWithWays_0 : decode cX6_firstActWithWays 0 = .ok (.iconst 0, 1) := by decide +kernel
theorem dX6_firstActWithWays_1 : decode cX6_firstActWithWays 1 = .ok (.istore 4, 2) := by decide +kernel
theorem dX6_firstActWithWays_3 : decode cX6_firstActWithWays 3 = .ok (.iload 4, 2) := by decide +kernel
theorem dX6_firstActWithWays_5 : decode cX6_firstActWithWays 5 = .ok (.iconst 3, 1) := by decide +kernel
theorem dX6_firstActWithWays_6 : decode cX6_firstActWithWays 6 = .ok (.if_icmp .gt 29, 3) := by decide +kernel
theorem dX6_firstActWithWays_9 : decode cX6_firstActWithWays 9 = .ok (.aload_n 0, 1) := by decide +kernel
theorem dX6_firstActWithWays_10 : decode cX6_firstActWithWays 10 = .ok (.iload_n 2, 1) := by decide +kernel
theorem dX6_firstActWithWays_11 : decode cX6_firstActWithWays 11 = .ok (.iconst 1, 1) := by decide +kernel
theorem dX6_firstActWithWays_12 : decode cX6_firstActWithWays 12 = .ok (.iadd, 1) := by decide +kernel
theorem dX6_firstActWithWays_13 : decode cX6_firstActWithWays 13 = .ok (.aload_n 1, 1) := by decide +kernel
theorem dX6_firstActWithWays_14 : decode cX6_firstActWithWays 14 = .ok (.iload_n 3, 1) := by decide +kernel
theorem dX6_firstActWithWays_15 : decode cX6_firstActWithWays 15 = .ok (.iload 4, 2) := by decide +kernel
theorem dX6_firstActWithWays_17 : decode cX6_firstActWithWays 17 = .ok (.invokevirtual 53, 3) := by decide +kernel
theorem dX6_firstActWithWays_20 : decode cX6_firstActWithWays 20 = .ok (.invokevirtual 56, 3) := by decide +kernel
theorem dX6_firstActWithWays_23 : decode cX6_firstActWithWays 23 = .ok (.ifCond .le 6, 3) := by decide +kernel
theorem dX6_firstActWithWays_26 : decode cX6_firstActWithWays 26 = .ok (.iload 4, 2) := by decide +kernel
theorem dX6_firstActWithWays_28 : decode cX6_firstActWithWays 28 = .ok (.ireturn, 1) := by decide +kernel
theorem dX6_firstActWithWays_29 : decode cX6_firstActWithWays 29 = .ok (.iinc 4 1, 3) := by decide +kernel
theorem dX6_firstActWithWays_32 : decode cX6_firstActWithWays 32 = .ok (.goto (-29), 3) := by decide +kernel
theorem dX6_firstActWithWays_35 : decode cX6_firstActWithWays 35 = .ok (.bipush (-9), 2) := by decide +kernel
theorem dX6_firstActWithWays_37 : decode cX6_firstActWithWays 37 = .ok (.ireturn, 1) := by decide +kernel
