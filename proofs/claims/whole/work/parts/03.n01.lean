theorem dX3_firstOf_13 : decode cX3_firstOf 13 = .ok (.ishl, 1) := by decide +kernel
theorem dX3_firstOf_14 : decode cX3_firstOf 14 = .ok (.iand, 1) := by decide +kernel
theorem dX3_firstOf_15 : decode cX3_firstOf 15 = .ok (.ifCond .eq 5, 3) := by decide +kernel
theorem dX3_firstOf_18 : decode cX3_firstOf 18 = .ok (.iload_n 2, 1) := by decide +kernel
theorem dX3_firstOf_19 : decode cX3_firstOf 19 = .ok (.ireturn, 1) := by decide +kernel
theorem dX3_firstOf_20 : decode cX3_firstOf 20 = .ok (.iinc 2 1, 3) := by decide +kernel
theorem dX3_firstOf_23 : decode cX3_firstOf 23 = .ok (.goto (-21), 3) := by decide +kernel
theorem dX3_firstOf_26 : decode cX3_firstOf 26 = .ok (.bipush (-9), 2) := by decide +kernel
theorem dX3_firstOf_28 : decode cX3_firstOf 28 = .ok (.ireturn, 1) := by decide +kernel
set_option maxRecDepth 20000 in
theorem ggX3_goodOnes_X0_doFit : GoodIn wsX3_goodOnes wsX0_doFit := goodIn_r _ [8, 9, 10, 11, 12, 7, 13, 14, 15, 16, 17, 18, 19, 20, 21, 22, 23, 24, 25, 26, 27, 28, 29, 30, 31, 32, 33, 34, 35, 36, 37, 38, 45, 46, 47, 48, 49] (by decide +kernel) (by decide +kernel)
set_option maxRecDepth 20000 in
theorem gX3_goodOnes_X0_doFit : GoodIn wsX3_goodOnes (wsV RX3 50 RX0 yX0_doFit wsX0_doFit) := goodIn_app (goodIn_of _ (by decide +kernel)) ggX3_goodOnes_X0_doFit
set_option maxRecDepth 20000 in
theorem ggX3_goodOnes_X4_bitIf : GoodIn wsX3_goodOnes wsX4_bitIf := goodIn_r _ [41] (by decide +kernel) (by decide +kernel)
set_option maxRecDepth 20000 in
theorem gX3_goodOnes_X4_bitIf_n46 : GoodIn wsX3_goodOnes (wsX4_bitIf) := ggX3_goodOnes_X4_bitIf
theorem dX3_goodOnes_0 : decode cX3_goodOnes 0 = .ok (.iconst 0, 1) := by decide +kernel
theorem dX3_goodOnes_1 : decode cX3_goodOnes 1 = .ok (.istore_n 2, 1) := by decide +kernel
theorem dX3_goodOnes_2 : decode cX3_goodOnes 2 = .ok (.iconst 0, 1) := by decide +kernel
theorem dX3_goodOnes_3 : decode cX3_goodOnes 3 = .ok (.istore_n 3, 1) := by decide +kernel
theorem dX3_goodOnes_4 : decode cX3_goodOnes 4 = .ok (.iload_n 3, 1) := by decide +kernel
theorem dX3_goodOnes_5 : decode cX3_goodOnes 5 = .ok (.aload_n 0, 1) := by decide +kernel
theorem dX3_goodOnes_6 : decode cX3_goodOnes 6 = .ok (.getfield 18, 3) := by decide +kernel
theorem dX3_goodOnes_9 : decode cX3_goodOnes 9 = .ok (.if_icmp .ge 38, 3) := by decide +kernel
theorem dX3_goodOnes_12 : decode cX3_goodOnes 12 = .ok (.iload_n 2, 1) := by decide +kernel
theorem dX3_goodOnes_13 : decode cX3_goodOnes 13 = .ok (.aload_n 1, 1) := by decide +kernel
theorem dX3_goodOnes_14 : decode cX3_goodOnes 14 = .ok (.aload_n 0, 1) := by decide +kernel
theorem dX3_goodOnes_15 : decode cX3_goodOnes 15 = .ok (.getfield 9, 3) := by decide +kernel
theorem dX3_goodOnes_18 : decode cX3_goodOnes 18 = .ok (.iload_n 3, 1) := by decide +kernel
theorem dX3_goodOnes_19 : decode cX3_goodOnes 19 = .ok (.iaload, 1) := by decide +kernel
theorem dX3_goodOnes_20 : decode cX3_goodOnes 20 = .ok (.aload_n 0, 1) := by decide +kernel
theorem dX3_goodOnes_21 : decode cX3_goodOnes 21 = .ok (.getfield 9, 3) := by decide +kernel
theorem dX3_goodOnes_24 : decode cX3_goodOnes 24 = .ok (.iload_n 3, 1) := by decide +kernel
theorem dX3_goodOnes_25 : decode cX3_goodOnes 25 = .ok (.iaload, 1) := by decide +kernel
theorem dX3_goodOnes_26 : decode cX3_goodOnes 26 = .ok (.aload_n 0, 1) := by decide +kernel
theorem dX3_goodOnes_27 : decode cX3_goodOnes 27 = .ok (.getfield 15, 3) := by decide +kernel
theorem dX3_goodOnes_30 : decode cX3_goodOnes 30 = .ok (.iload_n 3, 1) := by decide +kernel
theorem dX3_goodOnes_31 : decode cX3_goodOnes 31 = .ok (.iaload, 1) := by decide +kernel
theorem dX3_goodOnes_32 : decode cX3_goodOnes 32 = .ok (.invokevirtual 50, 3) := by decide +kernel
theorem dX3_goodOnes_35 : decode cX3_goodOnes 35 = .ok (.iload_n 3, 1) := by decide +kernel
theorem dX3_goodOnes_36 : decode cX3_goodOnes 36 = .ok (.invokestatic 46, 3) := by decide +kernel
theorem dX3_goodOnes_39 : decode cX3_goodOnes 39 = .ok (.ior, 1) := by decide +kernel
theorem dX3_goodOnes_40 : decode cX3_goodOnes 40 = .ok (.istore_n 2, 1) := by decide +kernel
theorem dX3_goodOnes_41 : decode cX3_goodOnes 41 = .ok (.iinc 3 1, 3) := by decide +kernel
theorem dX3_goodOnes_44 : decode cX3_goodOnes 44 = .ok (.goto (-40), 3) := by decide +kernel
theorem dX3_goodOnes_47 : decode cX3_goodOnes 47 = .ok (.iload_n 2, 1) := by decide +kernel
theorem dX3_goodOnes_48 : decode cX3_goodOnes 48 = .ok (.ireturn, 1) := by decide +kernel
set_option maxRecDepth 20000 in
theorem ggX3_onesOf_X4_bitIf : GoodIn wsX3_onesOf wsX4_bitIf := goodIn_r _ [5] (by decide +kernel) (by decide +kernel)
set_option maxRecDepth 20000 in
theorem gX3_onesOf_X4_bitIf_n46 : GoodIn wsX3_onesOf (wsX4_bitIf) := ggX3_onesOf_X4_bitIf
theorem dX3_onesOf_0 : decode cX3_onesOf 0 = .ok (.iconst 0, 1) := by decide +kernel
theorem dX3_onesOf_1 : decode cX3_onesOf 1 = .ok (.istore_n 2, 1) := by decide +kernel
theorem dX3_onesOf_2 : decode cX3_onesOf 2 = .ok (.iconst 0, 1) := by decide +kernel
theorem dX3_onesOf_3 : decode cX3_onesOf 3 = .ok (.istore_n 3, 1) := by decide +kernel
theorem dX3_onesOf_4 : decode cX3_onesOf 4 = .ok (.iload_n 3, 1) := by decide +kernel
theorem dX3_onesOf_5 : decode cX3_onesOf 5 = .ok (.aload_n 0, 1) := by decide +kernel
theorem dX3_onesOf_6 : decode cX3_onesOf 6 = .ok (.getfield 18, 3) := by decide +kernel
theorem dX3_onesOf_9 : decode cX3_onesOf 9 = .ok (.if_icmp .ge 31, 3) := by decide +kernel
theorem dX3_onesOf_12 : decode cX3_onesOf 12 = .ok (.iload_n 2, 1) := by decide +kernel
theorem dX3_onesOf_13 : decode cX3_onesOf 13 = .ok (.aload_n 0, 1) := by decide +kernel
theorem dX3_onesOf_14 : decode cX3_onesOf 14 = .ok (.getfield 9, 3) := by decide +kernel
theorem dX3_onesOf_17 : decode cX3_onesOf 17 = .ok (.iload_n 3, 1) := by decide +kernel
theorem dX3_onesOf_18 : decode cX3_onesOf 18 = .ok (.iaload, 1) := by decide +kernel
theorem dX3_onesOf_19 : decode cX3_onesOf 19 = .ok (.iload_n 1, 1) := by decide +kernel
theorem dX3_onesOf_20 : decode cX3_onesOf 20 = .ok (.if_icmp .ne 7, 3) := by decide +kernel
theorem dX3_onesOf_23 : decode cX3_onesOf 23 = .ok (.iconst 1, 1) := by decide +kernel
theorem dX3_onesOf_24 : decode cX3_onesOf 24 = .ok (.goto 4, 3) := by decide +kernel
theorem dX3_onesOf_27 : decode cX3_onesOf 27 = .ok (.iconst 0, 1) := by decide +kernel
theorem dX3_onesOf_28 : decode cX3_onesOf 28 = .ok (.iload_n 3, 1) := by decide +kernel
theorem dX3_onesOf_29 : decode cX3_onesOf 29 = .ok (.invokestatic 46, 3) := by decide +kernel
theorem dX3_onesOf_32 : decode cX3_onesOf 32 = .ok (.ior, 1) := by decide +kernel
theorem dX3_onesOf_33 : decode cX3_onesOf 33 = .ok (.istore_n 2, 1) := by decide +kernel
theorem dX3_onesOf_34 : decode cX3_onesOf 34 = .ok (.iinc 3 1, 3) := by decide +kernel
theorem dX3_onesOf_37 : decode cX3_onesOf 37 = .ok (.goto (-33), 3) := by decide +kernel
theorem dX3_onesOf_40 : decode cX3_onesOf 40 = .ok (.iload_n 2, 1) := by decide +kernel
theorem dX3_onesOf_41 : decode cX3_onesOf 41 = .ok (.ireturn, 1) := by decide +kernel
set_option maxRecDepth 20000 in
theorem ggX4_init_X0_init : GoodIn wsX4_init wsX0_init := goodIn_r _ [23, 24, 2, 3, 25, 26, 27, 28, 29, 30, 58, 59, 60, 61, 62] (by decide +kernel) (by decide +kernel)
set_option maxRecDepth 20000 in
theorem gX4_init_X0_init_n19 : GoodIn wsX4_init (wsX0_init) := ggX4_init_X0_init
set_option maxRecDepth 20000 in
theorem ggX4_init_X3_init : GoodIn wsX4_init wsX3_init := goodIn_r _ [32, 33, 2, 3, 25, 34, 35, 36, 63, 64, 65] (by decide +kernel) (by decide +kernel)
set_option maxRecDepth 20000 in
theorem gX4_init_X3_init_n26 : GoodIn wsX4_init (wsX3_init) := ggX4_init_X3_init
set_option maxRecDepth 20000 in
theorem ggX4_init_X1_init : GoodIn wsX4_init wsX1_init := goodIn_r _ [38, 39, 2, 3, 25, 40, 41, 42, 43, 44, 45, 66, 67, 68, 69, 70] (by decide +kernel) (by decide +kernel)
set_option maxRecDepth 20000 in
theorem gX4_init_X1_init_n33 : GoodIn wsX4_init (wsX1_init) := ggX4_init_X1_init
set_option maxRecDepth 20000 in
theorem ggX4_init_X2_init : GoodIn wsX4_init wsX2_init := goodIn_r _ [47, 48, 2, 3, 25, 49, 50, 51, 71, 72, 73] (by decide +kernel) (by decide +kernel)
set_option maxRecDepth 20000 in
theorem gX4_init_X2_init_n45 : GoodIn wsX4_init (wsX2_init) := ggX4_init_X2_init
theorem dX4_init_0 : decode cX4_init 0 = .ok (.aload_n 0, 1) := by decide +kernel
theorem dX4_init_1 : decode cX4_init 1 = .ok (.invokespecial 3, 3) := by decide +kernel
theorem dX4_init_4 : decode cX4_init 4 = .ok (.aload_n 0, 1) := by decide +kernel
theorem dX4_init_5 : decode cX4_init 5 = .ok (.iconst 4, 1) := by decide +kernel
theorem dX4_init_6 : decode cX4_init 6 = .ok (.anewarray 11, 3) := by decide +kernel
theorem dX4_init_9 : decode cX4_init 9 = .ok (.putfield 13, 3) := by decide +kernel
theorem dX4_init_12 : decode cX4_init 12 = .ok (.aload_n 0, 1) := by decide +kernel
theorem dX4_init_13 : decode cX4_init 13 = .ok (.new 17, 3) := by decide +kernel
theorem dX4_init_16 : decode cX4_init 16 = .ok (.dup, 1) := by decide +kernel
theorem dX4_init_17 : decode cX4_init 17 = .ok (.invokespecial 19, 3) := by decide +kernel
theorem dX4_init_20 : decode cX4_init 20 = .ok (.putfield 20, 3) := by decide +kernel
theorem dX4_init_23 : decode cX4_init 23 = .ok (.aload_n 0, 1) := by decide +kernel
theorem dX4_init_24 : decode cX4_init 24 = .ok (.new 24, 3) := by decide +kernel
theorem dX4_init_27 : decode cX4_init 27 = .ok (.dup, 1) := by decide +kernel
theorem dX4_init_28 : decode cX4_init 28 = .ok (.invokespecial 26, 3) := by decide +kernel
theorem dX4_init_31 : decode cX4_init 31 = .ok (.putfield 27, 3) := by decide +kernel
theorem dX4_init_34 : decode cX4_init 34 = .ok (.aload_n 0, 1) := by decide +kernel
theorem dX4_init_35 : decode cX4_init 35 = .ok (.new 31, 3) := by decide +kernel
theorem dX4_init_38 : decode cX4_init 38 = .ok (.dup, 1) := by decide +kernel
theorem dX4_init_39 : decode cX4_init 39 = .ok (.invokespecial 33, 3) := by decide +kernel
theorem dX4_init_42 : decode cX4_init 42 = .ok (.putfield 34, 3) := by decide +kernel
theorem dX4_init_45 : decode cX4_init 45 = .ok (.aload_n 0, 1) := by decide +kernel
theorem dX4_init_46 : decode cX4_init 46 = .ok (.iconst 0, 1) := by decide +kernel
theorem dX4_init_47 : decode cX4_init 47 = .ok (.putfield 38, 3) := by decide +kernel
theorem dX4_init_50 : decode cX4_init 50 = .ok (.aload_n 0, 1) := by decide +kernel
theorem dX4_init_51 : decode cX4_init 51 = .ok (.iconst 0, 1) := by decide +kernel
theorem dX4_init_52 : decode cX4_init 52 = .ok (.putfield 42, 3) := by decide +kernel
theorem dX4_init_55 : decode cX4_init 55 = .ok (.iconst 0, 1) := by decide +kernel
theorem dX4_init_56 : decode cX4_init 56 = .ok (.istore_n 1, 1) := by decide +kernel
theorem dX4_init_57 : decode cX4_init 57 = .ok (.iload_n 1, 1) := by decide +kernel
theorem dX4_init_58 : decode cX4_init 58 = .ok (.iconst 4, 1) := by decide +kernel
theorem dX4_init_59 : decode cX4_init 59 = .ok (.if_icmp .ge 22, 3) := by decide +kernel
theorem dX4_init_62 : decode cX4_init 62 = .ok (.aload_n 0, 1) := by decide +kernel
theorem dX4_init_63 : decode cX4_init 63 = .ok (.getfield 13, 3) := by decide +kernel
theorem dX4_init_66 : decode cX4_init 66 = .ok (.iload_n 1, 1) := by decide +kernel
theorem dX4_init_67 : decode cX4_init 67 = .ok (.new 11, 3) := by decide +kernel
theorem dX4_init_70 : decode cX4_init 70 = .ok (.dup, 1) := by decide +kernel
theorem dX4_init_71 : decode cX4_init 71 = .ok (.invokespecial 45, 3) := by decide +kernel
theorem dX4_init_74 : decode cX4_init 74 = .ok (.aastore, 1) := by decide +kernel
theorem dX4_init_75 : decode cX4_init 75 = .ok (.iinc 1 1, 3) := by decide +kernel
theorem dX4_init_78 : decode cX4_init 78 = .ok (.goto (-21), 3) := by decide +kernel
theorem dX4_init_81 : decode cX4_init 81 = .ok (.return_, 1) := by decide +kernel
set_option maxRecDepth 20000 in
theorem ggX4_coast_X4_isSheet : GoodIn wsX4_coast wsX4_isSheet := goodIn_r _ [8, 9, 10, 7, 11] (by decide +kernel) (by decide +kernel)
set_option maxRecDepth 20000 in
theorem gX4_coast_X4_isSheet : GoodIn wsX4_coast (va_wsS RX4 46 yX4_isSheet wsX4_isSheet) := goodIn_app (goodIn_of _ (by decide +kernel)) ggX4_coast_X4_isSheet
set_option maxRecDepth 20000 in
theorem ggX4_coast_X4_isLane : GoodIn wsX4_coast wsX4_isLane := goodIn_r _ [14, 9, 10, 7, 11] (by decide +kernel) (by decide +kernel)
set_option maxRecDepth 20000 in
theorem gX4_coast_X4_isLane : GoodIn wsX4_coast (va_wsS RX4 50 yX4_isLane wsX4_isLane) := goodIn_app (goodIn_of _ (by decide +kernel)) ggX4_coast_X4_isLane
set_option maxRecDepth 20000 in
theorem ggX4_coast_X4_faultOfText : GoodIn wsX4_coast wsX4_faultOfText := goodIn_r _ [17, 18, 19, 7, 20, 21, 22, 23, 24, 25, 26, 27, 28, 29, 30, 31, 32, 33, 34, 35, 36, 37, 38, 101, 102, 103] (by decide +kernel) (by decide +kernel)
set_option maxRecDepth 20000 in
theorem gX4_coast_X4_faultOfText : GoodIn wsX4_coast (va_wsS RX4 53 yX4_faultOfText wsX4_faultOfText) := goodIn_app (goodIn_of _ (by decide +kernel)) ggX4_coast_X4_faultOfText
set_option maxRecDepth 20000 in
theorem ggX4_coast_X0_firstWrongCode : GoodIn wsX4_coast wsX0_firstWrongCode := goodIn_r _ [42, 43, 44, 45, 27, 46, 47, 48, 49, 50, 51, 38, 52, 53, 41, 54, 55, 56, 57, 101, 102, 103] (by decide +kernel) (by decide +kernel)
set_option maxRecDepth 20000 in
theorem gX4_coast_X0_firstWrongCode : GoodIn wsX4_coast (va_wsS RX4 57 yX0_firstWrongCode wsX0_firstWrongCode) := goodIn_app (goodIn_of _ (by decide +kernel)) ggX4_coast_X0_firstWrongCode
set_option maxRecDepth 20000 in
theorem ggX4_coast_X0_takeText : GoodIn wsX4_coast wsX0_takeText := goodIn_r _ [61, 62, 63, 64, 65, 66, 67, 68, 43, 44, 45, 27, 46, 47, 48, 49, 50, 51, 38, 69, 70, 41, 71, 72, 73, 74, 75, 76, 77, 78, 79, 80, 104, 105, 106, 107, 108, 101, 102, 103] (by decide +kernel) (by decide +kernel)
set_option maxRecDepth 20000 in
theorem gX4_coast_X0_takeText : GoodIn wsX4_coast (wsV RX4 61 RX0 yX0_takeText wsX0_takeText) := goodIn_app (goodIn_of _ (by decide +kernel)) ggX4_coast_X0_takeText
set_option maxRecDepth 20000 in
theorem ggX4_coast_X1_howMany : GoodIn wsX4_coast wsX1_howMany := goodIn_r _ [85, 86, 109, 110, 111, 112, 113] (by decide +kernel) (by decide +kernel)
set_option maxRecDepth 20000 in
theorem gX4_coast_X1_howMany : GoodIn wsX4_coast (wsV RX4 65 RX1 yX1_howMany wsX1_howMany) := goodIn_app (goodIn_of _ (by decide +kernel)) ggX4_coast_X1_howMany
set_option maxRecDepth 20000 in
theorem ggX4_coast_X1_dropLast : GoodIn wsX4_coast wsX1_dropLast := goodIn_r _ [90, 86, 109, 110, 111, 112, 113] (by decide +kernel) (by decide +kernel)
set_option maxRecDepth 20000 in
theorem gX4_coast_X1_dropLast : GoodIn wsX4_coast (wsV RX4 69 RX1 yX1_dropLast wsX1_dropLast) := goodIn_app (goodIn_of _ (by decide +kernel)) ggX4_coast_X1_dropLast
set_option maxRecDepth 20000 in
theorem ggX4_coast_X0_howMany : GoodIn wsX4_coast wsX0_howMany := goodIn_r _ [94, 66, 104, 105, 106, 107, 108] (by decide +kernel) (by decide +kernel)
set_option maxRecDepth 20000 in
theorem gX4_coast_X0_howMany : GoodIn wsX4_coast (wsV RX4 73 RX0 yX0_howMany wsX0_howMany) := goodIn_app (goodIn_of _ (by decide +kernel)) ggX4_coast_X0_howMany
theorem dX4_coast_0 : decode cX4_coast 0 = .ok (.aload_n 0, 1) := by decide +kernel
theorem dX4_coast_1 : decode cX4_coast 1 = .ok (.iconst 0, 1) := by decide +kernel
theorem dX4_coast_2 : decode cX4_coast 2 = .ok (.putfield 42, 3) := by decide +kernel
theorem dX4_coast_5 : decode cX4_coast 5 = .ok (.iload_n 1, 1) := by decide +kernel
theorem dX4_coast_6 : decode cX4_coast 6 = .ok (.invokestatic 46, 3) := by decide +kernel
theorem dX4_coast_9 : decode cX4_coast 9 = .ok (.ifCond .ne 5, 3) := by decide +kernel
theorem dX4_coast_12 : decode cX4_coast 12 = .ok (.iconst (-1), 1) := by decide +kernel
theorem dX4_coast_13 : decode cX4_coast 13 = .ok (.ireturn, 1) := by decide +kernel
theorem dX4_coast_14 : decode cX4_coast 14 = .ok (.iload_n 2, 1) := by decide +kernel
theorem dX4_coast_15 : decode cX4_coast 15 = .ok (.invokestatic 50, 3) := by decide +kernel
theorem dX4_coast_18 : decode cX4_coast 18 = .ok (.ifCond .ne 6, 3) := by decide +kernel
theorem dX4_coast_21 : decode cX4_coast 21 = .ok (.bipush (-2), 2) := by decide +kernel
theorem dX4_coast_23 : decode cX4_coast 23 = .ok (.ireturn, 1) := by decide +kernel
theorem dX4_coast_24 : decode cX4_coast 24 = .ok (.aload_n 0, 1) := by decide +kernel
theorem dX4_coast_25 : decode cX4_coast 25 = .ok (.aload_n 0, 1) := by decide +kernel
theorem dX4_coast_26 : decode cX4_coast 26 = .ok (.getfield 13, 3) := by decide +kernel
theorem dX4_coast_29 : decode cX4_coast 29 = .ok (.iload_n 1, 1) := by decide +kernel
theorem dX4_coast_30 : decode cX4_coast 30 = .ok (.aaload, 1) := by decide +kernel
theorem dX4_coast_31 : decode cX4_coast 31 = .ok (.iload_n 2, 1) := by decide +kernel
theorem dX4_coast_32 : decode cX4_coast 32 = .ok (.iload_n 3, 1) := by decide +kernel
theorem dX4_coast_33 : decode cX4_coast 33 = .ok (.iload 4, 2) := by decide +kernel
theorem dX4_coast_35 : decode cX4_coast 35 = .ok (.invokestatic 53, 3) := by decide +kernel
theorem dX4_coast_38 : decode cX4_coast 38 = .ok (.putfield 42, 3) := by decide +kernel
theorem dX4_coast_41 : decode cX4_coast 41 = .ok (.aload_n 0, 1) := by decide +kernel
theorem dX4_coast_42 : decode cX4_coast 42 = .ok (.getfield 42, 3) := by decide +kernel
theorem dX4_coast_45 : decode cX4_coast 45 = .ok (.ifCond .eq 11, 3) := by decide +kernel
theorem dX4_coast_48 : decode cX4_coast 48 = .ok (.bipush (-10), 2) := by decide +kernel
theorem dX4_coast_50 : decode cX4_coast 50 = .ok (.aload_n 0, 1) := by decide +kernel
theorem dX4_coast_51 : decode cX4_coast 51 = .ok (.getfield 42, 3) := by decide +kernel
theorem dX4_coast_54 : decode cX4_coast 54 = .ok (.isub, 1) := by decide +kernel
theorem dX4_coast_55 : decode cX4_coast 55 = .ok (.ireturn, 1) := by decide +kernel
theorem dX4_coast_56 : decode cX4_coast 56 = .ok (.aload_n 0, 1) := by decide +kernel
theorem dX4_coast_57 : decode cX4_coast 57 = .ok (.getfield 13, 3) := by decide +kernel
theorem dX4_coast_60 : decode cX4_coast 60 = .ok (.iload_n 1, 1) := by decide +kernel
theorem dX4_coast_61 : decode cX4_coast 61 = .ok (.aaload, 1) := by decide +kernel
theorem dX4_coast_62 : decode cX4_coast 62 = .ok (.iload_n 3, 1) := by decide +kernel
theorem dX4_coast_63 : decode cX4_coast 63 = .ok (.iload 4, 2) := by decide +kernel
theorem dX4_coast_65 : decode cX4_coast 65 = .ok (.invokestatic 57, 3) := by decide +kernel
theorem dX4_coast_68 : decode cX4_coast 68 = .ok (.istore 5, 2) := by decide +kernel
theorem dX4_coast_70 : decode cX4_coast 70 = .ok (.iload 5, 2) := by decide +kernel
theorem dX4_coast_72 : decode cX4_coast 72 = .ok (.bipush (-9), 2) := by decide +kernel
theorem dX4_coast_74 : decode cX4_coast 74 = .ok (.if_icmp .eq 9, 3) := by decide +kernel
theorem dX4_coast_77 : decode cX4_coast 77 = .ok (.bipush (-100), 2) := by decide +kernel
theorem dX4_coast_79 : decode cX4_coast 79 = .ok (.iload 5, 2) := by decide +kernel
theorem dX4_coast_81 : decode cX4_coast 81 = .ok (.isub, 1) := by decide +kernel
theorem dX4_coast_82 : decode cX4_coast 82 = .ok (.ireturn, 1) := by decide +kernel
theorem dX4_coast_83 : decode cX4_coast 83 = .ok (.aload_n 0, 1) := by decide +kernel
theorem dX4_coast_84 : decode cX4_coast 84 = .ok (.getfield 20, 3) := by decide +kernel
theorem dX4_coast_87 : decode cX4_coast 87 = .ok (.aload_n 0, 1) := by decide +kernel
theorem dX4_coast_88 : decode cX4_coast 88 = .ok (.getfield 13, 3) := by decide +kernel
theorem dX4_coast_91 : decode cX4_coast 91 = .ok (.iload_n 1, 1) := by decide +kernel
theorem dX4_coast_92 : decode cX4_coast 92 = .ok (.aaload, 1) := by decide +kernel
theorem dX4_coast_93 : decode cX4_coast 93 = .ok (.iload_n 3, 1) := by decide +kernel
theorem dX4_coast_94 : decode cX4_coast 94 = .ok (.iload 4, 2) := by decide +kernel
theorem dX4_coast_96 : decode cX4_coast 96 = .ok (.invokevirtual 61, 3) := by decide +kernel
theorem dX4_coast_99 : decode cX4_coast 99 = .ok (.aload_n 0, 1) := by decide +kernel
theorem dX4_coast_100 : decode cX4_coast 100 = .ok (.getfield 34, 3) := by decide +kernel
theorem dX4_coast_103 : decode cX4_coast 103 = .ok (.aload_n 0, 1) := by decide +kernel
theorem dX4_coast_104 : decode cX4_coast 104 = .ok (.getfield 34, 3) := by decide +kernel
theorem dX4_coast_107 : decode cX4_coast 107 = .ok (.invokevirtual 65, 3) := by decide +kernel
theorem dX4_coast_110 : decode cX4_coast 110 = .ok (.invokevirtual 69, 3) := by decide +kernel
theorem dX4_coast_113 : decode cX4_coast 113 = .ok (.aload_n 0, 1) := by decide +kernel
theorem dX4_coast_114 : decode cX4_coast 114 = .ok (.getfield 20, 3) := by decide +kernel
theorem dX4_coast_117 : decode cX4_coast 117 = .ok (.invokevirtual 73, 3) := by decide +kernel
theorem dX4_coast_120 : decode cX4_coast 120 = .ok (.ireturn, 1) := by decide +kernel
set_option maxRecDepth 20000 in
theorem ggX4_ofPass_X0_hasPass : GoodIn wsX4_ofPass wsX0_hasPass := goodIn_r _ [6, 7, 29, 30, 31, 32, 33] (by decide +kernel) (by decide +kernel)
set_option maxRecDepth 20000 in
theorem gX4_ofPass_X0_hasPass : GoodIn wsX4_ofPass (wsV RX4 74 RX0 yX0_hasPass wsX0_hasPass) := goodIn_app (goodIn_of _ (by decide +kernel)) ggX4_ofPass_X0_hasPass
set_option maxRecDepth 20000 in
theorem ggX4_ofPass_X4_within : GoodIn wsX4_ofPass wsX4_within := goodIn_r _ [11] (by decide +kernel) (by decide +kernel)
set_option maxRecDepth 20000 in
theorem gX4_ofPass_X4_within : GoodIn wsX4_ofPass (va_wsS RX4 77 yX4_within wsX4_within) := goodIn_app (goodIn_of _ (by decide +kernel)) ggX4_ofPass_X4_within
set_option maxRecDepth 20000 in
theorem ggX4_ofPass_X0_kindOf : GoodIn wsX4_ofPass wsX0_kindOf := goodIn_r _ [15, 16, 17, 3, 4, 5, 6, 7, 29, 30, 31, 32, 33] (by decide +kernel) (by decide +kernel)
set_option maxRecDepth 20000 in
theorem gX4_ofPass_X0_kindOf : GoodIn wsX4_ofPass (wsV RX4 81 RX0 yX0_kindOf wsX0_kindOf) := goodIn_app (goodIn_of _ (by decide +kernel)) ggX4_ofPass_X0_kindOf
set_option maxRecDepth 20000 in
theorem ggX4_ofPass_X0_heightOf : GoodIn wsX4_ofPass wsX0_heightOf := goodIn_r _ [21, 22, 17, 3, 4, 5, 6, 7, 29, 30, 31, 32, 33] (by decide +kernel) (by decide +kernel)
set_option maxRecDepth 20000 in
theorem gX4_ofPass_X0_heightOf : GoodIn wsX4_ofPass (wsV RX4 85 RX0 yX0_heightOf wsX0_heightOf) := goodIn_app (goodIn_of _ (by decide +kernel)) ggX4_ofPass_X0_heightOf
theorem dX4_ofPass_0 : decode cX4_ofPass 0 = .ok (.aload_n 0, 1) := by decide +kernel
theorem dX4_ofPass_1 : decode cX4_ofPass 1 = .ok (.getfield 20, 3) := by decide +kernel
theorem dX4_ofPass_4 : decode cX4_ofPass 4 = .ok (.iload_n 1, 1) := by decide +kernel
theorem dX4_ofPass_5 : decode cX4_ofPass 5 = .ok (.invokevirtual 74, 3) := by decide +kernel
theorem dX4_ofPass_8 : decode cX4_ofPass 8 = .ok (.ifCond .ne 5, 3) := by decide +kernel
theorem dX4_ofPass_11 : decode cX4_ofPass 11 = .ok (.iconst (-1), 1) := by decide +kernel
theorem dX4_ofPass_12 : decode cX4_ofPass 12 = .ok (.ireturn, 1) := by decide +kernel
theorem dX4_ofPass_13 : decode cX4_ofPass 13 = .ok (.iload_n 2, 1) := by decide +kernel
theorem dX4_ofPass_14 : decode cX4_ofPass 14 = .ok (.iconst 0, 1) := by decide +kernel
theorem dX4_ofPass_15 : decode cX4_ofPass 15 = .ok (.iconst 3, 1) := by decide +kernel
theorem dX4_ofPass_16 : decode cX4_ofPass 16 = .ok (.invokestatic 77, 3) := by decide +kernel
theorem dX4_ofPass_19 : decode cX4_ofPass 19 = .ok (.ifCond .ne 6, 3) := by decide +kernel
theorem dX4_ofPass_22 : decode cX4_ofPass 22 = .ok (.bipush (-2), 2) := by decide +kernel
theorem dX4_ofPass_24 : decode cX4_ofPass 24 = .ok (.ireturn, 1) := by decide +kernel
theorem dX4_ofPass_25 : decode cX4_ofPass 25 = .ok (.iload_n 2, 1) := by decide +kernel
theorem dX4_ofPass_26 : decode cX4_ofPass 26 = .ok (.ifCond .ne 14, 3) := by decide +kernel
theorem dX4_ofPass_29 : decode cX4_ofPass 29 = .ok (.aload_n 0, 1) := by decide +kernel
theorem dX4_ofPass_30 : decode cX4_ofPass 30 = .ok (.getfield 20, 3) := by decide +kernel
theorem dX4_ofPass_33 : decode cX4_ofPass 33 = .ok (.iload_n 1, 1) := by decide +kernel
theorem dX4_ofPass_34 : decode cX4_ofPass 34 = .ok (.invokevirtual 81, 3) := by decide +kernel
theorem dX4_ofPass_37 : decode cX4_ofPass 37 = .ok (.goto 14, 3) := by decide +kernel
theorem dX4_ofPass_40 : decode cX4_ofPass 40 = .ok (.aload_n 0, 1) := by decide +kernel
theorem dX4_ofPass_41 : decode cX4_ofPass 41 = .ok (.getfield 20, 3) := by decide +kernel
theorem dX4_ofPass_44 : decode cX4_ofPass 44 = .ok (.iload_n 1, 1) := by decide +kernel
theorem dX4_ofPass_45 : decode cX4_ofPass 45 = .ok (.iload_n 2, 1) := by decide +kernel
theorem dX4_ofPass_46 : decode cX4_ofPass 46 = .ok (.iconst 1, 1) := by decide +kernel
theorem dX4_ofPass_47 : decode cX4_ofPass 47 = .ok (.isub, 1) := by decide +kernel
theorem dX4_ofPass_48 : decode cX4_ofPass 48 = .ok (.invokevirtual 85, 3) := by decide +kernel
theorem dX4_ofPass_51 : decode cX4_ofPass 51 = .ok (.ireturn, 1) := by decide +kernel
set_option maxRecDepth 20000 in
theorem ggX4_trim_X0_hasPass : GoodIn wsX4_trim wsX0_hasPass := goodIn_r _ [6, 7, 31, 32, 33, 34, 35] (by decide +kernel) (by decide +kernel)
set_option maxRecDepth 20000 in
theorem gX4_trim_X0_hasPass : GoodIn wsX4_trim (wsV RX4 74 RX0 yX0_hasPass wsX0_hasPass) := goodIn_app (goodIn_of _ (by decide +kernel)) ggX4_trim_X0_hasPass
set_option maxRecDepth 20000 in
theorem ggX4_trim_X4_isPlace : GoodIn wsX4_trim wsX4_isPlace := goodIn_r _ [11, 12, 13, 10, 14] (by decide +kernel) (by decide +kernel)
set_option maxRecDepth 20000 in
theorem gX4_trim_X4_isPlace : GoodIn wsX4_trim (va_wsS RX4 89 yX4_isPlace wsX4_isPlace) := goodIn_app (goodIn_of _ (by decide +kernel)) ggX4_trim_X4_isPlace
set_option maxRecDepth 20000 in
theorem ggX4_trim_X4_within : GoodIn wsX4_trim wsX4_within := goodIn_r _ [14] (by decide +kernel) (by decide +kernel)
set_option maxRecDepth 20000 in
theorem gX4_trim_X4_within : GoodIn wsX4_trim (va_wsS RX4 77 yX4_within wsX4_within) := goodIn_app (goodIn_of _ (by decide +kernel)) ggX4_trim_X4_within
set_option maxRecDepth 20000 in
theorem ggX4_trim_X0_heightOf : GoodIn wsX4_trim wsX0_heightOf := goodIn_r _ [18, 19, 20, 3, 4, 5, 6, 7, 31, 32, 33, 34, 35] (by decide +kernel) (by decide +kernel)
set_option maxRecDepth 20000 in
theorem gX4_trim_X0_heightOf : GoodIn wsX4_trim (wsV RX4 85 RX0 yX0_heightOf wsX0_heightOf) := goodIn_app (goodIn_of _ (by decide +kernel)) ggX4_trim_X0_heightOf
set_option maxRecDepth 20000 in
theorem ggX4_trim_X0_setHeight : GoodIn wsX4_trim wsX0_setHeight := goodIn_r _ [24, 19, 20, 3, 4, 5, 6, 7, 31, 32, 33, 34, 35] (by decide +kernel) (by decide +kernel)
set_option maxRecDepth 20000 in
theorem gX4_trim_X0_setHeight : GoodIn wsX4_trim (wsV RX4 92 RX0 yX0_setHeight wsX0_setHeight) := goodIn_app (goodIn_of _ (by decide +kernel)) ggX4_trim_X0_setHeight
theorem dX4_trim_0 : decode cX4_trim 0 = .ok (.aload_n 0, 1) := by decide +kernel
theorem dX4_trim_1 : decode cX4_trim 1 = .ok (.getfield 20, 3) := by decide +kernel
theorem dX4_trim_4 : decode cX4_trim 4 = .ok (.iload_n 1, 1) := by decide +kernel
theorem dX4_trim_5 : decode cX4_trim 5 = .ok (.invokevirtual 74, 3) := by decide +kernel
theorem dX4_trim_8 : decode cX4_trim 8 = .ok (.ifCond .ne 5, 3) := by decide +kernel
theorem dX4_trim_11 : decode cX4_trim 11 = .ok (.iconst (-1), 1) := by decide +kernel
theorem dX4_trim_12 : decode cX4_trim 12 = .ok (.ireturn, 1) := by decide +kernel
theorem dX4_trim_13 : decode cX4_trim 13 = .ok (.iload_n 2, 1) := by decide +kernel
theorem dX4_trim_14 : decode cX4_trim 14 = .ok (.invokestatic 89, 3) := by decide +kernel
theorem dX4_trim_17 : decode cX4_trim 17 = .ok (.ifCond .eq 13, 3) := by decide +kernel
theorem dX4_trim_20 : decode cX4_trim 20 = .ok (.iload_n 3, 1) := by decide +kernel
theorem dX4_trim_21 : decode cX4_trim 21 = .ok (.iconst 0, 1) := by decide +kernel
theorem dX4_trim_22 : decode cX4_trim 22 = .ok (.bipush 9, 2) := by decide +kernel
theorem dX4_trim_24 : decode cX4_trim 24 = .ok (.invokestatic 77, 3) := by decide +kernel
theorem dX4_trim_27 : decode cX4_trim 27 = .ok (.ifCond .ne 6, 3) := by decide +kernel
theorem dX4_trim_30 : decode cX4_trim 30 = .ok (.bipush (-2), 2) := by decide +kernel
theorem dX4_trim_32 : decode cX4_trim 32 = .ok (.ireturn, 1) := by decide +kernel
theorem dX4_trim_33 : decode cX4_trim 33 = .ok (.aload_n 0, 1) := by decide +kernel
theorem dX4_trim_34 : decode cX4_trim 34 = .ok (.getfield 20, 3) := by decide +kernel
theorem dX4_trim_37 : decode cX4_trim 37 = .ok (.iload_n 1, 1) := by decide +kernel
theorem dX4_trim_38 : decode cX4_trim 38 = .ok (.iload_n 2, 1) := by decide +kernel
theorem dX4_trim_39 : decode cX4_trim 39 = .ok (.invokevirtual 85, 3) := by decide +kernel
theorem dX4_trim_42 : decode cX4_trim 42 = .ok (.istore 4, 2) := by decide +kernel
theorem dX4_trim_44 : decode cX4_trim 44 = .ok (.aload_n 0, 1) := by decide +kernel
theorem dX4_trim_45 : decode cX4_trim 45 = .ok (.getfield 20, 3) := by decide +kernel
theorem dX4_trim_48 : decode cX4_trim 48 = .ok (.iload_n 1, 1) := by decide +kernel
theorem dX4_trim_49 : decode cX4_trim 49 = .ok (.iload_n 2, 1) := by decide +kernel
theorem dX4_trim_50 : decode cX4_trim 50 = .ok (.iload_n 3, 1) := by decide +kernel
theorem dX4_trim_51 : decode cX4_trim 51 = .ok (.invokevirtual 92, 3) := by decide +kernel
theorem dX4_trim_54 : decode cX4_trim 54 = .ok (.iload 4, 2) := by decide +kernel
theorem dX4_trim_56 : decode cX4_trim 56 = .ok (.ireturn, 1) := by decide +kernel
set_option maxRecDepth 20000 in
theorem ggX4_slack_X4_within : GoodIn wsX4_slack wsX4_within := goodIn_r _ [5] (by decide +kernel) (by decide +kernel)
set_option maxRecDepth 20000 in
theorem gX4_slack_X4_within : GoodIn wsX4_slack (va_wsS RX4 77 yX4_within wsX4_within) := goodIn_app (goodIn_of _ (by decide +kernel)) ggX4_slack_X4_within
set_option maxRecDepth 20000 in
theorem ggX4_slack_X0_stands : GoodIn wsX4_slack wsX0_stands := goodIn_r _ [10, 11, 27, 28, 29, 30, 31] (by decide +kernel) (by decide +kernel)
set_option maxRecDepth 20000 in
theorem gX4_slack_X0_stands : GoodIn wsX4_slack (wsV RX4 96 RX0 yX0_stands wsX0_stands) := goodIn_app (goodIn_of _ (by decide +kernel)) ggX4_slack_X0_stands
set_option maxRecDepth 20000 in
theorem ggX4_slack_X0_slackNow : GoodIn wsX4_slack wsX0_slackNow := goodIn_r _ [15, 16, 27, 28, 29, 30, 31] (by decide +kernel) (by decide +kernel)
set_option maxRecDepth 20000 in
theorem gX4_slack_X0_slackNow : GoodIn wsX4_slack (wsV RX4 100 RX0 yX0_slackNow wsX0_slackNow) := goodIn_app (goodIn_of _ (by decide +kernel)) ggX4_slack_X0_slackNow
set_option maxRecDepth 20000 in
theorem ggX4_slack_X0_setSlack : GoodIn wsX4_slack wsX0_setSlack := goodIn_r _ [20, 16, 27, 28, 29, 30, 31] (by decide +kernel) (by decide +kernel)
set_option maxRecDepth 20000 in
theorem gX4_slack_X0_setSlack : GoodIn wsX4_slack (wsV RX4 103 RX0 yX0_setSlack wsX0_setSlack) := goodIn_app (goodIn_of _ (by decide +kernel)) ggX4_slack_X0_setSlack
theorem dX4_slack_0 : decode cX4_slack 0 = .ok (.iload_n 1, 1) := by decide +kernel
theorem dX4_slack_1 : decode cX4_slack 1 = .ok (.iconst 0, 1) := by decide +kernel
theorem dX4_slack_2 : decode cX4_slack 2 = .ok (.bipush 9, 2) := by decide +kernel
theorem dX4_slack_4 : decode cX4_slack 4 = .ok (.invokestatic 77, 3) := by decide +kernel
theorem dX4_slack_7 : decode cX4_slack 7 = .ok (.ifCond .ne 6, 3) := by decide +kernel
theorem dX4_slack_10 : decode cX4_slack 10 = .ok (.bipush (-2), 2) := by decide +kernel
theorem dX4_slack_12 : decode cX4_slack 12 = .ok (.ireturn, 1) := by decide +kernel
theorem dX4_slack_13 : decode cX4_slack 13 = .ok (.aload_n 0, 1) := by decide +kernel
theorem dX4_slack_14 : decode cX4_slack 14 = .ok (.getfield 20, 3) := by decide +kernel
theorem dX4_slack_17 : decode cX4_slack 17 = .ok (.invokevirtual 96, 3) := by decide +kernel
theorem dX4_slack_20 : decode cX4_slack 20 = .ok (.ifCond .ne 6, 3) := by decide +kernel
theorem dX4_slack_23 : decode cX4_slack 23 = .ok (.bipush (-3), 2) := by decide +kernel
theorem dX4_slack_25 : decode cX4_slack 25 = .ok (.ireturn, 1) := by decide +kernel
theorem dX4_slack_26 : decode cX4_slack 26 = .ok (.aload_n 0, 1) := by decide +kernel
theorem dX4_slack_27 : decode cX4_slack 27 = .ok (.getfield 20, 3) := by decide +kernel
theorem dX4_slack_30 : decode cX4_slack 30 = .ok (.invokevirtual 100, 3) := by decide +kernel
theorem dX4_slack_33 : decode cX4_slack 33 = .ok (.istore_n 2, 1) := by decide +kernel
theorem dX4_slack_34 : decode cX4_slack 34 = .ok (.aload_n 0, 1) := by decide +kernel
theorem dX4_slack_35 : decode cX4_slack 35 = .ok (.getfield 20, 3) := by decide +kernel
theorem dX4_slack_38 : decode cX4_slack 38 = .ok (.iload_n 1, 1) := by decide +kernel
theorem dX4_slack_39 : decode cX4_slack 39 = .ok (.invokevirtual 103, 3) := by decide +kernel
theorem dX4_slack_42 : decode cX4_slack 42 = .ok (.iload_n 2, 1) := by decide +kernel
theorem dX4_slack_43 : decode cX4_slack 43 = .ok (.ireturn, 1) := by decide +kernel
set_option maxRecDepth 20000 in
theorem ggX4_worn_X0_hasPass : GoodIn wsX4_worn wsX0_hasPass := goodIn_r _ [6, 7, 46, 47, 48, 49, 50] (by decide +kernel) (by decide +kernel)
set_option maxRecDepth 20000 in
theorem gX4_worn_X0_hasPass : GoodIn wsX4_worn (wsV RX4 74 RX0 yX0_hasPass wsX0_hasPass) := goodIn_app (goodIn_of _ (by decide +kernel)) ggX4_worn_X0_hasPass
set_option maxRecDepth 20000 in
theorem ggX4_worn_X4_isPlace : GoodIn wsX4_worn wsX4_isPlace := goodIn_r _ [11, 12, 13, 10, 14] (by decide +kernel) (by decide +kernel)
set_option maxRecDepth 20000 in
theorem gX4_worn_X4_isPlace : GoodIn wsX4_worn (va_wsS RX4 89 yX4_isPlace wsX4_isPlace) := goodIn_app (goodIn_of _ (by decide +kernel)) ggX4_worn_X4_isPlace
set_option maxRecDepth 20000 in
theorem ggX4_worn_X4_isMonths : GoodIn wsX4_worn wsX4_isMonths := goodIn_r _ [17, 12, 13, 10, 14] (by decide +kernel) (by decide +kernel)
set_option maxRecDepth 20000 in
theorem gX4_worn_X4_isMonths : GoodIn wsX4_worn (va_wsS RX4 106 yX4_isMonths wsX4_isMonths) := goodIn_app (goodIn_of _ (by decide +kernel)) ggX4_worn_X4_isMonths
set_option maxRecDepth 20000 in
theorem ggX4_worn_X0_lowerHeight : GoodIn wsX4_worn wsX0_lowerHeight := goodIn_r _ [21, 22, 23, 24, 25, 26, 27, 28, 5, 29, 30, 31, 3, 4, 6, 7, 32, 33, 34, 35, 36, 37, 38, 39, 46, 47, 48, 49, 50] (by decide +kernel) (by decide +kernel)
set_option maxRecDepth 20000 in
theorem gX4_worn_X0_lowerHeight : GoodIn wsX4_worn (wsV RX4 109 RX0 yX0_lowerHeight wsX0_lowerHeight) := goodIn_app (goodIn_of _ (by decide +kernel)) ggX4_worn_X0_lowerHeight
theorem dX4_worn_0 : decode cX4_worn 0 = .ok (.aload_n 0, 1) := by decide +kernel
theorem dX4_worn_1 : decode cX4_worn 1 = .ok (.getfield 20, 3) := by decide +kernel
theorem dX4_worn_4 : decode cX4_worn 4 = .ok (.iload_n 1, 1) := by decide +kernel
theorem dX4_worn_5 : decode cX4_worn 5 = .ok (.invokevirtual 74, 3) := by decide +kernel
theorem dX4_worn_8 : decode cX4_worn 8 = .ok (.ifCond .ne 5, 3) := by decide +kernel
theorem dX4_worn_11 : decode cX4_worn 11 = .ok (.iconst (-1), 1) := by decide +kernel
theorem dX4_worn_12 : decode cX4_worn 12 = .ok (.ireturn, 1) := by decide +kernel
theorem dX4_worn_13 : decode cX4_worn 13 = .ok (.iload_n 2, 1) := by decide +kernel
theorem dX4_worn_14 : decode cX4_worn 14 = .ok (.invokestatic 89, 3) := by decide +kernel
theorem dX4_worn_17 : decode cX4_worn 17 = .ok (.ifCond .eq 10, 3) := by decide +kernel
theorem dX4_worn_20 : decode cX4_worn 20 = .ok (.iload_n 3, 1) := by decide +kernel
theorem dX4_worn_21 : decode cX4_worn 21 = .ok (.invokestatic 106, 3) := by decide +kernel
theorem dX4_worn_24 : decode cX4_worn 24 = .ok (.ifCond .ne 6, 3) := by decide +kernel
theorem dX4_worn_27 : decode cX4_worn 27 = .ok (.bipush (-2), 2) := by decide +kernel
theorem dX4_worn_29 : decode cX4_worn 29 = .ok (.ireturn, 1) := by decide +kernel
theorem dX4_worn_30 : decode cX4_worn 30 = .ok (.aload_n 0, 1) := by decide +kernel
theorem dX4_worn_31 : decode cX4_worn 31 = .ok (.getfield 20, 3) := by decide +kernel
theorem dX4_worn_34 : decode cX4_worn 34 = .ok (.iload_n 1, 1) := by decide +kernel
theorem dX4_worn_35 : decode cX4_worn 35 = .ok (.iload_n 2, 1) := by decide +kernel
theorem dX4_worn_36 : decode cX4_worn 36 = .ok (.iload_n 3, 1) := by decide +kernel
theorem dX4_worn_37 : decode cX4_worn 37 = .ok (.invokevirtual 109, 3) := by decide +kernel
theorem dX4_worn_40 : decode cX4_worn 40 = .ok (.ireturn, 1) := by decide +kernel
set_option maxRecDepth 20000 in
theorem ggX4_off_X0_hasPass : GoodIn wsX4_off wsX0_hasPass := goodIn_r _ [6, 7, 46, 47, 48, 49, 50] (by decide +kernel) (by decide +kernel)
set_option maxRecDepth 20000 in
theorem gX4_off_X0_hasPass : GoodIn wsX4_off (wsV RX4 74 RX0 yX0_hasPass wsX0_hasPass) := goodIn_app (goodIn_of _ (by decide +kernel)) ggX4_off_X0_hasPass
set_option maxRecDepth 20000 in
theorem ggX4_off_X4_isMonths : GoodIn wsX4_off wsX4_isMonths := goodIn_r _ [11, 12, 13, 10, 14] (by decide +kernel) (by decide +kernel)
set_option maxRecDepth 20000 in
theorem gX4_off_X4_isMonths : GoodIn wsX4_off (va_wsS RX4 106 yX4_isMonths wsX4_isMonths) := goodIn_app (goodIn_of _ (by decide +kernel)) ggX4_off_X4_isMonths
set_option maxRecDepth 20000 in
theorem ggX4_off_X0_apart : GoodIn wsX4_off wsX0_apart := goodIn_r _ [18, 19, 20, 21, 22, 23, 24, 25, 26, 27, 28, 5, 29, 30, 31, 3, 4, 6, 7, 32, 33, 34, 35, 36, 37, 38, 39, 46, 47, 48, 49, 50] (by decide +kernel) (by decide +kernel)
set_option maxRecDepth 20000 in
theorem gX4_off_X0_apart : GoodIn wsX4_off (wsV RX4 113 RX0 yX0_apart wsX0_apart) := goodIn_app (goodIn_of _ (by decide +kernel)) ggX4_off_X0_apart
theorem dX4_off_0 : decode cX4_off 0 = .ok (.aload_n 0, 1) := by decide +kernel
theorem dX4_off_1 : decode cX4_off 1 = .ok (.getfield 20, 3) := by decide +kernel
theorem dX4_off_4 : decode cX4_off 4 = .ok (.iload_n 1, 1) := by decide +kernel
theorem dX4_off_5 : decode cX4_off 5 = .ok (.invokevirtual 74, 3) := by decide +kernel
theorem dX4_off_8 : decode cX4_off 8 = .ok (.ifCond .eq 14, 3) := by decide +kernel
theorem dX4_off_11 : decode cX4_off 11 = .ok (.aload_n 0, 1) := by decide +kernel
theorem dX4_off_12 : decode cX4_off 12 = .ok (.getfield 20, 3) := by decide +kernel
theorem dX4_off_15 : decode cX4_off 15 = .ok (.iload_n 2, 1) := by decide +kernel
theorem dX4_off_16 : decode cX4_off 16 = .ok (.invokevirtual 74, 3) := by decide +kernel
theorem dX4_off_19 : decode cX4_off 19 = .ok (.ifCond .ne 5, 3) := by decide +kernel
theorem dX4_off_22 : decode cX4_off 22 = .ok (.iconst (-1), 1) := by decide +kernel
theorem dX4_off_23 : decode cX4_off 23 = .ok (.ireturn, 1) := by decide +kernel
theorem dX4_off_24 : decode cX4_off 24 = .ok (.iload_n 3, 1) := by decide +kernel
theorem dX4_off_25 : decode cX4_off 25 = .ok (.invokestatic 106, 3) := by decide +kernel
theorem dX4_off_28 : decode cX4_off 28 = .ok (.ifCond .eq 16, 3) := by decide +kernel
theorem dX4_off_31 : decode cX4_off 31 = .ok (.aload_n 0, 1) := by decide +kernel
theorem dX4_off_32 : decode cX4_off 32 = .ok (.getfield 20, 3) := by decide +kernel
theorem dX4_off_35 : decode cX4_off 35 = .ok (.iload_n 1, 1) := by decide +kernel
theorem dX4_off_36 : decode cX4_off 36 = .ok (.iload_n 2, 1) := by decide +kernel
theorem dX4_off_37 : decode cX4_off 37 = .ok (.iload_n 3, 1) := by decide +kernel
theorem dX4_off_38 : decode cX4_off 38 = .ok (.invokevirtual 113, 3) := by decide +kernel
theorem dX4_off_41 : decode cX4_off 41 = .ok (.goto 5, 3) := by decide +kernel
theorem dX4_off_44 : decode cX4_off 44 = .ok (.bipush (-2), 2) := by decide +kernel
theorem dX4_off_46 : decode cX4_off 46 = .ok (.ireturn, 1) := by decide +kernel
set_option maxRecDepth 20000 in
theorem ggX4_fits_X0_hasPass : GoodIn wsX4_fits wsX0_hasPass := goodIn_r _ [6, 7, 53, 54, 55, 56, 57] (by decide +kernel) (by decide +kernel)
set_option maxRecDepth 20000 in
theorem gX4_fits_X0_hasPass : GoodIn wsX4_fits (wsV RX4 74 RX0 yX0_hasPass wsX0_hasPass) := goodIn_app (goodIn_of _ (by decide +kernel)) ggX4_fits_X0_hasPass
set_option maxRecDepth 20000 in
theorem ggX4_fits_X4_isMonths : GoodIn wsX4_fits wsX4_isMonths := goodIn_r _ [11, 12, 13, 10, 14] (by decide +kernel) (by decide +kernel)
set_option maxRecDepth 20000 in
theorem gX4_fits_X4_isMonths : GoodIn wsX4_fits (va_wsS RX4 106 yX4_isMonths wsX4_isMonths) := goodIn_app (goodIn_of _ (by decide +kernel)) ggX4_fits_X4_isMonths
set_option maxRecDepth 20000 in
theorem ggX4_fits_X0_fitting : GoodIn wsX4_fits wsX0_fitting := goodIn_r _ [18, 7, 19, 20, 21, 22, 5, 23, 24, 25, 26, 27, 28, 29, 30, 31, 32, 33, 34, 35, 36, 3, 4, 6, 37, 38, 39, 40, 41, 42, 43, 44, 45, 10, 46, 53, 54, 55, 56, 57] (by decide +kernel) (by decide +kernel)
set_option maxRecDepth 20000 in
theorem gX4_fits_X0_fitting : GoodIn wsX4_fits (wsV RX4 116 RX0 yX0_fitting wsX0_fitting) := goodIn_app (goodIn_of _ (by decide +kernel)) ggX4_fits_X0_fitting
theorem dX4_fits_0 : decode cX4_fits 0 = .ok (.aload_n 0, 1) := by decide +kernel
theorem dX4_fits_1 : decode cX4_fits 1 = .ok (.getfield 20, 3) := by decide +kernel
theorem dX4_fits_4 : decode cX4_fits 4 = .ok (.iload_n 1, 1) := by decide +kernel
theorem dX4_fits_5 : decode cX4_fits 5 = .ok (.invokevirtual 74, 3) := by decide +kernel
theorem dX4_fits_8 : decode cX4_fits 8 = .ok (.ifCond .ne 5, 3) := by decide +kernel
theorem dX4_fits_11 : decode cX4_fits 11 = .ok (.iconst (-1), 1) := by decide +kernel
theorem dX4_fits_12 : decode cX4_fits 12 = .ok (.ireturn, 1) := by decide +kernel
theorem dX4_fits_13 : decode cX4_fits 13 = .ok (.iload_n 2, 1) := by decide +kernel
theorem dX4_fits_14 : decode cX4_fits 14 = .ok (.invokestatic 106, 3) := by decide +kernel
theorem dX4_fits_17 : decode cX4_fits 17 = .ok (.ifCond .eq 15, 3) := by decide +kernel
theorem dX4_fits_20 : decode cX4_fits 20 = .ok (.aload_n 0, 1) := by decide +kernel
theorem dX4_fits_21 : decode cX4_fits 21 = .ok (.getfield 20, 3) := by decide +kernel
theorem dX4_fits_24 : decode cX4_fits 24 = .ok (.iload_n 1, 1) := by decide +kernel
theorem dX4_fits_25 : decode cX4_fits 25 = .ok (.iload_n 2, 1) := by decide +kernel
theorem dX4_fits_26 : decode cX4_fits 26 = .ok (.invokevirtual 116, 3) := by decide +kernel
theorem dX4_fits_29 : decode cX4_fits 29 = .ok (.goto 5, 3) := by decide +kernel
theorem dX4_fits_32 : decode cX4_fits 32 = .ok (.bipush (-2), 2) := by decide +kernel
theorem dX4_fits_34 : decode cX4_fits 34 = .ok (.ireturn, 1) := by decide +kernel
set_option maxRecDepth 20000 in
theorem ggX4_match_X0_hasPass : GoodIn wsX4_match wsX0_hasPass := goodIn_r _ [6, 7, 51, 52, 53, 54, 55] (by decide +kernel) (by decide +kernel)
set_option maxRecDepth 20000 in
theorem gX4_match_X0_hasPass : GoodIn wsX4_match (wsV RX4 74 RX0 yX0_hasPass wsX0_hasPass) := goodIn_app (goodIn_of _ (by decide +kernel)) ggX4_match_X0_hasPass
set_option maxRecDepth 20000 in
theorem ggX4_match_X4_isMonths : GoodIn wsX4_match wsX4_isMonths := goodIn_r _ [11, 12, 13, 10, 14] (by decide +kernel) (by decide +kernel)
set_option maxRecDepth 20000 in
theorem gX4_match_X4_isMonths : GoodIn wsX4_match (va_wsS RX4 106 yX4_isMonths wsX4_isMonths) := goodIn_app (goodIn_of _ (by decide +kernel)) ggX4_match_X4_isMonths
set_option maxRecDepth 20000 in
theorem ggX4_match_X0_closestFitting : GoodIn wsX4_match wsX0_closestFitting := goodIn_r _ [18, 19, 7, 20, 21, 22, 5, 23, 24, 25, 26, 27, 28, 29, 30, 31, 32, 33, 34, 35, 36, 3, 4, 6, 37, 38, 39, 40, 41, 42, 43, 44, 51, 52, 53, 54, 55] (by decide +kernel) (by decide +kernel)
set_option maxRecDepth 20000 in
theorem gX4_match_X0_closestFitting : GoodIn wsX4_match (wsV RX4 119 RX0 yX0_closestFitting wsX0_closestFitting) := goodIn_app (goodIn_of _ (by decide +kernel)) ggX4_match_X0_closestFitting
theorem dX4_match_0 : decode cX4_match 0 = .ok (.aload_n 0, 1) := by decide +kernel
theorem dX4_match_1 : decode cX4_match 1 = .ok (.getfield 20, 3) := by decide +kernel
theorem dX4_match_4 : decode cX4_match 4 = .ok (.iload_n 1, 1) := by decide +kernel
theorem dX4_match_5 : decode cX4_match 5 = .ok (.invokevirtual 74, 3) := by decide +kernel
theorem dX4_match_8 : decode cX4_match 8 = .ok (.ifCond .ne 5, 3) := by decide +kernel
theorem dX4_match_11 : decode cX4_match 11 = .ok (.iconst (-1), 1) := by decide +kernel
theorem dX4_match_12 : decode cX4_match 12 = .ok (.ireturn, 1) := by decide +kernel
theorem dX4_match_13 : decode cX4_match 13 = .ok (.iload_n 2, 1) := by decide +kernel
theorem dX4_match_14 : decode cX4_match 14 = .ok (.invokestatic 106, 3) := by decide +kernel
theorem dX4_match_17 : decode cX4_match 17 = .ok (.ifCond .eq 15, 3) := by decide +kernel
theorem dX4_match_20 : decode cX4_match 20 = .ok (.aload_n 0, 1) := by decide +kernel
theorem dX4_match_21 : decode cX4_match 21 = .ok (.getfield 20, 3) := by decide +kernel
theorem dX4_match_24 : decode cX4_match 24 = .ok (.iload_n 1, 1) := by decide +kernel
theorem dX4_match_25 : decode cX4_match 25 = .ok (.iload_n 2, 1) := by decide +kernel
theorem dX4_match_26 : decode cX4_match 26 = .ok (.invokevirtual 119, 3) := by decide +kernel
theorem dX4_match_29 : decode cX4_match 29 = .ok (.goto 5, 3) := by decide +kernel
theorem dX4_match_32 : decode cX4_match 32 = .ok (.bipush (-2), 2) := by decide +kernel
theorem dX4_match_34 : decode cX4_match 34 = .ok (.ireturn, 1) := by decide +kernel
set_option maxRecDepth 20000 in
theorem ggX4_last_X0_hasPass : GoodIn wsX4_last wsX0_hasPass := goodIn_r _ [6, 7, 48, 49, 50, 51, 52] (by decide +kernel) (by decide +kernel)
set_option maxRecDepth 20000 in
theorem gX4_last_X0_hasPass : GoodIn wsX4_last (wsV RX4 74 RX0 yX0_hasPass wsX0_hasPass) := goodIn_app (goodIn_of _ (by decide +kernel)) ggX4_last_X0_hasPass
set_option maxRecDepth 20000 in
theorem ggX4_last_X0_lastGood : GoodIn wsX4_last wsX0_lastGood := goodIn_r _ [11, 12, 13, 14, 5, 15, 16, 17, 18, 19, 20, 21, 22, 23, 24, 25, 26, 27, 28, 29, 30, 31, 32, 33, 3, 4, 6, 7, 34, 35, 36, 37, 38, 39, 40, 41, 48, 49, 50, 51, 52] (by decide +kernel) (by decide +kernel)
set_option maxRecDepth 20000 in
theorem gX4_last_X0_lastGood : GoodIn wsX4_last (wsV RX4 122 RX0 yX0_lastGood wsX0_lastGood) := goodIn_app (goodIn_of _ (by decide +kernel)) ggX4_last_X0_lastGood
theorem dX4_last_0 : decode cX4_last 0 = .ok (.aload_n 0, 1) := by decide +kernel
theorem dX4_last_1 : decode cX4_last 1 = .ok (.getfield 20, 3) := by decide +kernel
theorem dX4_last_4 : decode cX4_last 4 = .ok (.iload_n 1, 1) := by decide +kernel
theorem dX4_last_5 : decode cX4_last 5 = .ok (.invokevirtual 74, 3) := by decide +kernel
theorem dX4_last_8 : decode cX4_last 8 = .ok (.ifCond .eq 14, 3) := by decide +kernel
theorem dX4_last_11 : decode cX4_last 11 = .ok (.aload_n 0, 1) := by decide +kernel
theorem dX4_last_12 : decode cX4_last 12 = .ok (.getfield 20, 3) := by decide +kernel
theorem dX4_last_15 : decode cX4_last 15 = .ok (.iload_n 1, 1) := by decide +kernel
theorem dX4_last_16 : decode cX4_last 16 = .ok (.invokevirtual 122, 3) := by decide +kernel
theorem dX4_last_19 : decode cX4_last 19 = .ok (.goto 4, 3) := by decide +kernel
theorem dX4_last_22 : decode cX4_last 22 = .ok (.iconst (-1), 1) := by decide +kernel
theorem dX4_last_23 : decode cX4_last 23 = .ok (.ireturn, 1) := by decide +kernel
set_option maxRecDepth 20000 in
theorem ggX4_alike_X0_hasPass : GoodIn wsX4_alike wsX0_hasPass := goodIn_r _ [6, 7, 36, 37, 38, 39, 40] (by decide +kernel) (by decide +kernel)
set_option maxRecDepth 20000 in
theorem gX4_alike_X0_hasPass : GoodIn wsX4_alike (wsV RX4 74 RX0 yX0_hasPass wsX0_hasPass) := goodIn_app (goodIn_of _ (by decide +kernel)) ggX4_alike_X0_hasPass
set_option maxRecDepth 20000 in
theorem ggX4_alike_X0_likeness : GoodIn wsX4_alike wsX0_likeness := goodIn_r _ [11, 7, 12, 13, 14, 5, 15, 16, 17, 18, 19, 20, 21, 22, 23, 24, 25, 26, 3, 4, 6, 27, 28, 29, 36, 37, 38, 39, 40] (by decide +kernel) (by decide +kernel)
set_option maxRecDepth 20000 in
theorem gX4_alike_X0_likeness : GoodIn wsX4_alike (wsV RX4 125 RX0 yX0_likeness wsX0_likeness) := goodIn_app (goodIn_of _ (by decide +kernel)) ggX4_alike_X0_likeness
theorem dX4_alike_0 : decode cX4_alike 0 = .ok (.aload_n 0, 1) := by decide +kernel
theorem dX4_alike_1 : decode cX4_alike 1 = .ok (.getfield 20, 3) := by decide +kernel
theorem dX4_alike_4 : decode cX4_alike 4 = .ok (.iload_n 1, 1) := by decide +kernel
theorem dX4_alike_5 : decode cX4_alike 5 = .ok (.invokevirtual 74, 3) := by decide +kernel
theorem dX4_alike_8 : decode cX4_alike 8 = .ok (.ifCond .eq 14, 3) := by decide +kernel
theorem dX4_alike_11 : decode cX4_alike 11 = .ok (.aload_n 0, 1) := by decide +kernel
theorem dX4_alike_12 : decode cX4_alike 12 = .ok (.getfield 20, 3) := by decide +kernel
theorem dX4_alike_15 : decode cX4_alike 15 = .ok (.iload_n 1, 1) := by decide +kernel
theorem dX4_alike_16 : decode cX4_alike 16 = .ok (.invokevirtual 125, 3) := by decide +kernel
theorem dX4_alike_19 : decode cX4_alike 19 = .ok (.goto 4, 3) := by decide +kernel
theorem dX4_alike_22 : decode cX4_alike 22 = .ok (.iconst (-1), 1) := by decide +kernel
theorem dX4_alike_23 : decode cX4_alike 23 = .ok (.ireturn, 1) := by decide +kernel
set_option maxRecDepth 20000 in
theorem ggX4_most_X0_stands : GoodIn wsX4_most wsX0_stands := goodIn_r _ [6, 7, 59, 60, 61, 62, 63] (by decide +kernel) (by decide +kernel)
set_option maxRecDepth 20000 in
theorem gX4_most_X0_stands : GoodIn wsX4_most (wsV RX4 96 RX0 yX0_stands wsX0_stands) := goodIn_app (goodIn_of _ (by decide +kernel)) ggX4_most_X0_stands
set_option maxRecDepth 20000 in
theorem ggX4_most_X0_mostUnlike : GoodIn wsX4_most wsX0_mostUnlike := goodIn_r _ [11, 7, 12, 13, 14, 15, 5, 16, 17, 18, 19, 20, 21, 22, 23, 24, 25, 26, 27, 28, 29, 30, 31, 32, 33, 34, 35, 36, 37, 38, 39, 40, 41, 42, 43, 44, 45, 46, 47, 48, 49, 50, 51, 52, 59, 60, 61, 62, 63] (by decide +kernel) (by decide +kernel)
set_option maxRecDepth 20000 in
theorem gX4_most_X0_mostUnlike : GoodIn wsX4_most (wsV RX4 128 RX0 yX0_mostUnlike wsX0_mostUnlike) := goodIn_app (goodIn_of _ (by decide +kernel)) ggX4_most_X0_mostUnlike
theorem dX4_most_0 : decode cX4_most 0 = .ok (.aload_n 0, 1) := by decide +kernel
theorem dX4_most_1 : decode cX4_most 1 = .ok (.getfield 20, 3) := by decide +kernel
theorem dX4_most_4 : decode cX4_most 4 = .ok (.invokevirtual 96, 3) := by decide +kernel
theorem dX4_most_7 : decode cX4_most 7 = .ok (.ifCond .eq 13, 3) := by decide +kernel
theorem dX4_most_10 : decode cX4_most 10 = .ok (.aload_n 0, 1) := by decide +kernel
theorem dX4_most_11 : decode cX4_most 11 = .ok (.getfield 20, 3) := by decide +kernel
theorem dX4_most_14 : decode cX4_most 14 = .ok (.invokevirtual 128, 3) := by decide +kernel
theorem dX4_most_17 : decode cX4_most 17 = .ok (.goto 5, 3) := by decide +kernel
theorem dX4_most_20 : decode cX4_most 20 = .ok (.bipush (-3), 2) := by decide +kernel
theorem dX4_most_22 : decode cX4_most 22 = .ok (.ireturn, 1) := by decide +kernel
set_option maxRecDepth 20000 in
theorem ggX4_letGo_X0_stands : GoodIn wsX4_letGo wsX0_stands := goodIn_r _ [6, 7, 73, 74, 75, 76, 77] (by decide +kernel) (by decide +kernel)
set_option maxRecDepth 20000 in
theorem gX4_letGo_X0_stands : GoodIn wsX4_letGo (wsV RX4 96 RX0 yX0_stands wsX0_stands) := goodIn_app (goodIn_of _ (by decide +kernel)) ggX4_letGo_X0_stands
set_option maxRecDepth 20000 in
theorem ggX4_letGo_X0_isSet : GoodIn wsX4_letGo wsX0_isSet := goodIn_r _ [11, 12, 13, 14, 5, 15, 7, 73, 74, 75, 76, 77] (by decide +kernel) (by decide +kernel)
set_option maxRecDepth 20000 in
theorem gX4_letGo_X0_isSet : GoodIn wsX4_letGo (wsV RX4 131 RX0 yX0_isSet wsX0_isSet) := goodIn_app (goodIn_of _ (by decide +kernel)) ggX4_letGo_X0_isSet
set_option maxRecDepth 20000 in
theorem ggX4_letGo_X4_isMonths : GoodIn wsX4_letGo wsX4_isMonths := goodIn_r _ [19, 20, 21, 18, 22] (by decide +kernel) (by decide +kernel)
set_option maxRecDepth 20000 in
theorem gX4_letGo_X4_isMonths : GoodIn wsX4_letGo (va_wsS RX4 106 yX4_isMonths wsX4_isMonths) := goodIn_app (goodIn_of _ (by decide +kernel)) ggX4_letGo_X4_isMonths
set_option maxRecDepth 20000 in
theorem ggX4_letGo_X0_layAll : GoodIn wsX4_letGo wsX0_layAll := goodIn_r _ [26, 7, 27, 28, 29, 30, 5, 31, 32, 33, 34, 35, 36, 37, 38, 39, 40, 41, 42, 43, 44, 45, 46, 47, 48, 49, 50, 51, 52, 53, 54, 55, 56, 57, 58, 59, 60, 61, 18, 62, 73, 74, 75, 76, 77] (by decide +kernel) (by decide +kernel)
set_option maxRecDepth 20000 in
theorem gX4_letGo_X0_layAll : GoodIn wsX4_letGo (wsV RX4 134 RX0 yX0_layAll wsX0_layAll) := goodIn_app (goodIn_of _ (by decide +kernel)) ggX4_letGo_X0_layAll
set_option maxRecDepth 20000 in
theorem ggX4_letGo_X0_freedBy : GoodIn wsX4_letGo wsX0_freedBy := goodIn_r _ [66, 7, 27, 61, 18, 62, 73, 74, 75, 76, 77] (by decide +kernel) (by decide +kernel)
set_option maxRecDepth 20000 in
theorem gX4_letGo_X0_freedBy : GoodIn wsX4_letGo (wsV RX4 137 RX0 yX0_freedBy wsX0_freedBy) := goodIn_app (goodIn_of _ (by decide +kernel)) ggX4_letGo_X0_freedBy
theorem dX4_letGo_0 : decode cX4_letGo 0 = .ok (.aload_n 0, 1) := by decide +kernel
theorem dX4_letGo_1 : decode cX4_letGo 1 = .ok (.getfield 20, 3) := by decide +kernel
theorem dX4_letGo_4 : decode cX4_letGo 4 = .ok (.invokevirtual 96, 3) := by decide +kernel
theorem dX4_letGo_7 : decode cX4_letGo 7 = .ok (.ifCond .ne 6, 3) := by decide +kernel
theorem dX4_letGo_10 : decode cX4_letGo 10 = .ok (.bipush (-3), 2) := by decide +kernel
theorem dX4_letGo_12 : decode cX4_letGo 12 = .ok (.ireturn, 1) := by decide +kernel
theorem dX4_letGo_13 : decode cX4_letGo 13 = .ok (.aload_n 0, 1) := by decide +kernel
theorem dX4_letGo_14 : decode cX4_letGo 14 = .ok (.getfield 20, 3) := by decide +kernel
theorem dX4_letGo_17 : decode cX4_letGo 17 = .ok (.iload_n 1, 1) := by decide +kernel
theorem dX4_letGo_18 : decode cX4_letGo 18 = .ok (.invokevirtual 131, 3) := by decide +kernel
theorem dX4_letGo_21 : decode cX4_letGo 21 = .ok (.ifCond .eq 10, 3) := by decide +kernel
theorem dX4_letGo_24 : decode cX4_letGo 24 = .ok (.iload_n 2, 1) := by decide +kernel
theorem dX4_letGo_25 : decode cX4_letGo 25 = .ok (.invokestatic 106, 3) := by decide +kernel
theorem dX4_letGo_28 : decode cX4_letGo 28 = .ok (.ifCond .ne 6, 3) := by decide +kernel
theorem dX4_letGo_31 : decode cX4_letGo 31 = .ok (.bipush (-2), 2) := by decide +kernel
theorem dX4_letGo_33 : decode cX4_letGo 33 = .ok (.ireturn, 1) := by decide +kernel
theorem dX4_letGo_34 : decode cX4_letGo 34 = .ok (.aload_n 0, 1) := by decide +kernel
theorem dX4_letGo_35 : decode cX4_letGo 35 = .ok (.getfield 20, 3) := by decide +kernel
theorem dX4_letGo_38 : decode cX4_letGo 38 = .ok (.iload_n 2, 1) := by decide +kernel
theorem dX4_letGo_39 : decode cX4_letGo 39 = .ok (.invokevirtual 134, 3) := by decide +kernel
theorem dX4_letGo_42 : decode cX4_letGo 42 = .ok (.aload_n 0, 1) := by decide +kernel
theorem dX4_letGo_43 : decode cX4_letGo 43 = .ok (.getfield 20, 3) := by decide +kernel
theorem dX4_letGo_46 : decode cX4_letGo 46 = .ok (.iload_n 1, 1) := by decide +kernel
theorem dX4_letGo_47 : decode cX4_letGo 47 = .ok (.invokevirtual 137, 3) := by decide +kernel
theorem dX4_letGo_50 : decode cX4_letGo 50 = .ok (.ireturn, 1) := by decide +kernel
set_option maxRecDepth 20000 in
theorem ggX4_fewest_X4_isMonths : GoodIn wsX4_fewest wsX4_isMonths := goodIn_r _ [5, 6, 7, 4, 8] (by decide +kernel) (by decide +kernel)
set_option maxRecDepth 20000 in
theorem gX4_fewest_X4_isMonths : GoodIn wsX4_fewest (va_wsS RX4 106 yX4_isMonths wsX4_isMonths) := goodIn_app (goodIn_of _ (by decide +kernel)) ggX4_fewest_X4_isMonths
set_option maxRecDepth 20000 in
theorem ggX4_fewest_X0_stands : GoodIn wsX4_fewest wsX0_stands := goodIn_r _ [13, 14, 80, 81, 82, 83, 84] (by decide +kernel) (by decide +kernel)
set_option maxRecDepth 20000 in
theorem gX4_fewest_X0_stands : GoodIn wsX4_fewest (wsV RX4 96 RX0 yX0_stands wsX0_stands) := goodIn_app (goodIn_of _ (by decide +kernel)) ggX4_fewest_X0_stands
set_option maxRecDepth 20000 in
theorem ggX4_fewest_X0_layAll : GoodIn wsX4_fewest wsX0_layAll := goodIn_r _ [18, 14, 19, 20, 21, 22, 12, 23, 24, 25, 26, 27, 28, 29, 30, 31, 32, 33, 34, 35, 36, 37, 38, 39, 40, 41, 42, 43, 44, 45, 46, 47, 48, 49, 50, 51, 52, 53, 4, 54, 80, 81, 82, 83, 84] (by decide +kernel) (by decide +kernel)
set_option maxRecDepth 20000 in
theorem gX4_fewest_X0_layAll : GoodIn wsX4_fewest (wsV RX4 134 RX0 yX0_layAll wsX0_layAll) := goodIn_app (goodIn_of _ (by decide +kernel)) ggX4_fewest_X0_layAll
set_option maxRecDepth 20000 in
theorem ggX4_fewest_X0_fewestFreeing : GoodIn wsX4_fewest wsX0_fewestFreeing := goodIn_r _ [58, 14, 59, 60, 61, 12, 62, 63, 64, 65, 66, 67, 68, 69, 70, 71, 72, 73, 19, 53, 4, 54, 80, 81, 82, 83, 84] (by decide +kernel) (by decide +kernel)
set_option maxRecDepth 20000 in
theorem gX4_fewest_X0_fewestFreeing : GoodIn wsX4_fewest (wsV RX4 140 RX0 yX0_fewestFreeing wsX0_fewestFreeing) := goodIn_app (goodIn_of _ (by decide +kernel)) ggX4_fewest_X0_fewestFreeing
theorem dX4_fewest_0 : decode cX4_fewest 0 = .ok (.iload_n 1, 1) := by decide +kernel
theorem dX4_fewest_1 : decode cX4_fewest 1 = .ok (.invokestatic 106, 3) := by decide +kernel
theorem dX4_fewest_4 : decode cX4_fewest 4 = .ok (.ifCond .ne 6, 3) := by decide +kernel
theorem dX4_fewest_7 : decode cX4_fewest 7 = .ok (.bipush (-2), 2) := by decide +kernel
theorem dX4_fewest_9 : decode cX4_fewest 9 = .ok (.ireturn, 1) := by decide +kernel
theorem dX4_fewest_10 : decode cX4_fewest 10 = .ok (.aload_n 0, 1) := by decide +kernel
theorem dX4_fewest_11 : decode cX4_fewest 11 = .ok (.getfield 20, 3) := by decide +kernel
theorem dX4_fewest_14 : decode cX4_fewest 14 = .ok (.invokevirtual 96, 3) := by decide +kernel
theorem dX4_fewest_17 : decode cX4_fewest 17 = .ok (.ifCond .ne 6, 3) := by decide +kernel
theorem dX4_fewest_20 : decode cX4_fewest 20 = .ok (.bipush (-3), 2) := by decide +kernel
theorem dX4_fewest_22 : decode cX4_fewest 22 = .ok (.ireturn, 1) := by decide +kernel
theorem dX4_fewest_23 : decode cX4_fewest 23 = .ok (.aload_n 0, 1) := by decide +kernel
theorem dX4_fewest_24 : decode cX4_fewest 24 = .ok (.getfield 20, 3) := by decide +kernel
theorem dX4_fewest_27 : decode cX4_fewest 27 = .ok (.iload_n 1, 1) := by decide +kernel
theorem dX4_fewest_28 : decode cX4_fewest 28 = .ok (.invokevirtual 134, 3) := by decide +kernel
theorem dX4_fewest_31 : decode cX4_fewest 31 = .ok (.aload_n 0, 1) := by decide +kernel
theorem dX4_fewest_32 : decode cX4_fewest 32 = .ok (.getfield 20, 3) := by decide +kernel
theorem dX4_fewest_35 : decode cX4_fewest 35 = .ok (.invokevirtual 140, 3) := by decide +kernel
theorem dX4_fewest_38 : decode cX4_fewest 38 = .ok (.ireturn, 1) := by decide +kernel
set_option maxRecDepth 20000 in
theorem ggX4_voyages_X4_isSheet : GoodIn wsX4_voyages wsX4_isSheet := goodIn_r _ [8, 9, 10, 7, 11] (by decide +kernel) (by decide +kernel)
set_option maxRecDepth 20000 in
theorem gX4_voyages_X4_isSheet : GoodIn wsX4_voyages (va_wsS RX4 46 yX4_isSheet wsX4_isSheet) := goodIn_app (goodIn_of _ (by decide +kernel)) ggX4_voyages_X4_isSheet
set_option maxRecDepth 20000 in
theorem ggX4_voyages_X4_isLane : GoodIn wsX4_voyages wsX4_isLane := goodIn_r _ [14, 9, 10, 7, 11] (by decide +kernel) (by decide +kernel)
set_option maxRecDepth 20000 in
theorem gX4_voyages_X4_isLane : GoodIn wsX4_voyages (va_wsS RX4 50 yX4_isLane wsX4_isLane) := goodIn_app (goodIn_of _ (by decide +kernel)) ggX4_voyages_X4_isLane
set_option maxRecDepth 20000 in
theorem ggX4_voyages_X4_within : GoodIn wsX4_voyages wsX4_within := goodIn_r _ [11] (by decide +kernel) (by decide +kernel)
set_option maxRecDepth 20000 in
theorem gX4_voyages_X4_within : GoodIn wsX4_voyages (va_wsS RX4 77 yX4_within wsX4_within) := goodIn_app (goodIn_of _ (by decide +kernel)) ggX4_voyages_X4_within
set_option maxRecDepth 20000 in
theorem ggX4_voyages_X4_isAskable : GoodIn wsX4_voyages wsX4_isAskable := goodIn_r _ [17, 9, 10, 7, 11] (by decide +kernel) (by decide +kernel)
set_option maxRecDepth 20000 in
theorem gX4_voyages_X4_isAskable : GoodIn wsX4_voyages (va_wsS RX4 143 yX4_isAskable wsX4_isAskable) := goodIn_app (goodIn_of _ (by decide +kernel)) ggX4_voyages_X4_isAskable
set_option maxRecDepth 20000 in
theorem ggX4_voyages_X4_faultOfCells : GoodIn wsX4_voyages wsX4_faultOfCells := goodIn_r _ [20, 21, 22, 7, 23, 24, 25, 26, 27, 28, 29, 30, 31, 32, 33, 34, 35, 36, 37, 38, 165, 166, 167] (by decide +kernel) (by decide +kernel)
set_option maxRecDepth 20000 in
theorem gX4_voyages_X4_faultOfCells : GoodIn wsX4_voyages (va_wsS RX4 146 yX4_faultOfCells wsX4_faultOfCells) := goodIn_app (goodIn_of _ (by decide +kernel)) ggX4_voyages_X4_faultOfCells
set_option maxRecDepth 20000 in
theorem ggX4_voyages_X0_stands : GoodIn wsX4_voyages wsX0_stands := goodIn_r _ [43, 44, 168, 169, 170, 171, 172] (by decide +kernel) (by decide +kernel)
set_option maxRecDepth 20000 in
theorem gX4_voyages_X0_stands : GoodIn wsX4_voyages (wsV RX4 96 RX0 yX0_stands wsX0_stands) := goodIn_app (goodIn_of _ (by decide +kernel)) ggX4_voyages_X0_stands
set_option maxRecDepth 20000 in
theorem ggX4_voyages_X0_isSet : GoodIn wsX4_voyages wsX0_isSet := goodIn_r _ [48, 49, 50, 51, 42, 52, 44, 168, 169, 170, 171, 172] (by decide +kernel) (by decide +kernel)
set_option maxRecDepth 20000 in
theorem gX4_voyages_X0_isSet : GoodIn wsX4_voyages (wsV RX4 131 RX0 yX0_isSet wsX0_isSet) := goodIn_app (goodIn_of _ (by decide +kernel)) ggX4_voyages_X0_isSet
set_option maxRecDepth 20000 in
theorem ggX4_voyages_X3_load : GoodIn wsX4_voyages wsX3_load := goodIn_r _ [57, 58, 59, 60, 61, 62, 63, 64, 65, 66, 67, 27, 68, 69, 70, 71, 72, 73, 38, 173, 174, 175, 165, 166, 167] (by decide +kernel) (by decide +kernel)
set_option maxRecDepth 20000 in
theorem gX4_voyages_X3_load : GoodIn wsX4_voyages (wsV RX4 149 RX3 yX3_load wsX3_load) := goodIn_app (goodIn_of _ (by decide +kernel)) ggX4_voyages_X3_load
set_option maxRecDepth 20000 in
theorem ggX4_voyages_X3_refusal : GoodIn wsX4_voyages wsX3_refusal := goodIn_r _ [77, 62, 63, 64, 78, 79, 80, 42, 81, 44, 82, 7, 83, 9, 10, 11, 173, 174, 175, 168, 169, 170, 171, 172] (by decide +kernel) (by decide +kernel)
set_option maxRecDepth 20000 in
theorem gX4_voyages_X3_refusal : GoodIn wsX4_voyages (wsV RX4 152 RX3 yX3_refusal wsX3_refusal) := goodIn_app (goodIn_of _ (by decide +kernel)) ggX4_voyages_X3_refusal
set_option maxRecDepth 20000 in
theorem ggX4_voyages_X4_meet : GoodIn wsX4_voyages wsX4_meet := goodIn_r _ [87, 4, 3, 88, 89, 90, 56, 91, 62, 64, 92, 93, 94, 95, 63, 96, 97, 98, 42, 99, 44, 100, 101, 102, 103, 104, 105, 106, 60, 107, 108, 109, 110, 111, 112, 113, 114, 115, 116, 79, 80, 81, 117, 118, 119, 120, 121, 122, 123, 124, 125, 7, 126, 127, 128, 129, 130, 131, 132, 133, 134, 135, 136, 137, 138, 139, 140, 141, 142, 143, 144, 145, 146, 147, 148, 149, 150, 151, 152, 153, 154, 155, 156, 157, 158, 159, 160, 161, 162, 163, 164, 173, 174, 175, 168, 169, 170, 171, 172] (by decide +kernel) (by decide +kernel)
set_option maxRecDepth 20000 in
theorem gX4_voyages_X4_meet : GoodIn wsX4_voyages (wsV RX4 156 RX4 yX4_meet wsX4_meet) := goodIn_app (goodIn_of _ (by decide +kernel)) ggX4_voyages_X4_meet
theorem dX4_voyages_0 : decode cX4_voyages 0 = .ok (.aload_n 0, 1) := by decide +kernel
theorem dX4_voyages_1 : decode cX4_voyages 1 = .ok (.iconst 0, 1) := by decide +kernel
theorem dX4_voyages_2 : decode cX4_voyages 2 = .ok (.putfield 42, 3) := by decide +kernel
theorem dX4_voyages_5 : decode cX4_voyages 5 = .ok (.iload_n 2, 1) := by decide +kernel
theorem dX4_voyages_6 : decode cX4_voyages 6 = .ok (.invokestatic 46, 3) := by decide +kernel
theorem dX4_voyages_9 : decode cX4_voyages 9 = .ok (.ifCond .ne 5, 3) := by decide +kernel
theorem dX4_voyages_12 : decode cX4_voyages 12 = .ok (.iconst (-1), 1) := by decide +kernel
theorem dX4_voyages_13 : decode cX4_voyages 13 = .ok (.ireturn, 1) := by decide +kernel
theorem dX4_voyages_14 : decode cX4_voyages 14 = .ok (.iload_n 3, 1) := by decide +kernel
theorem dX4_voyages_15 : decode cX4_voyages 15 = .ok (.invokestatic 50, 3) := by decide +kernel
theorem dX4_voyages_18 : decode cX4_voyages 18 = .ok (.ifCond .eq 22, 3) := by decide +kernel
theorem dX4_voyages_21 : decode cX4_voyages 21 = .ok (.iload 5, 2) := by decide +kernel
theorem dX4_voyages_23 : decode cX4_voyages 23 = .ok (.iconst 0, 1) := by decide +kernel
theorem dX4_voyages_24 : decode cX4_voyages 24 = .ok (.bipush 20, 2) := by decide +kernel
theorem dX4_voyages_26 : decode cX4_voyages 26 = .ok (.invokestatic 77, 3) := by decide +kernel
theorem dX4_voyages_29 : decode cX4_voyages 29 = .ok (.ifCond .eq 11, 3) := by decide +kernel
theorem dX4_voyages_32 : decode cX4_voyages 32 = .ok (.iload 6, 2) := by decide +kernel
theorem dX4_voyages_34 : decode cX4_voyages 34 = .ok (.invokestatic 143, 3) := by decide +kernel
theorem dX4_voyages_37 : decode cX4_voyages 37 = .ok (.ifCond .ne 6, 3) := by decide +kernel
theorem dX4_voyages_40 : decode cX4_voyages 40 = .ok (.bipush (-2), 2) := by decide +kernel
theorem dX4_voyages_42 : decode cX4_voyages 42 = .ok (.ireturn, 1) := by decide +kernel
theorem dX4_voyages_43 : decode cX4_voyages 43 = .ok (.aload_n 0, 1) := by decide +kernel
theorem dX4_voyages_44 : decode cX4_voyages 44 = .ok (.aload_n 0, 1) := by decide +kernel
theorem dX4_voyages_45 : decode cX4_voyages 45 = .ok (.getfield 13, 3) := by decide +kernel
theorem dX4_voyages_48 : decode cX4_voyages 48 = .ok (.iload_n 2, 1) := by decide +kernel
theorem dX4_voyages_49 : decode cX4_voyages 49 = .ok (.aaload, 1) := by decide +kernel
theorem dX4_voyages_50 : decode cX4_voyages 50 = .ok (.iload_n 3, 1) := by decide +kernel
theorem dX4_voyages_51 : decode cX4_voyages 51 = .ok (.iload 4, 2) := by decide +kernel
theorem dX4_voyages_53 : decode cX4_voyages 53 = .ok (.iconst 2, 1) := by decide +kernel
theorem dX4_voyages_54 : decode cX4_voyages 54 = .ok (.iload 5, 2) := by decide +kernel
theorem dX4_voyages_56 : decode cX4_voyages 56 = .ok (.imul, 1) := by decide +kernel
theorem dX4_voyages_57 : decode cX4_voyages 57 = .ok (.invokestatic 146, 3) := by decide +kernel
theorem dX4_voyages_60 : decode cX4_voyages 60 = .ok (.putfield 42, 3) := by decide +kernel
theorem dX4_voyages_63 : decode cX4_voyages 63 = .ok (.aload_n 0, 1) := by decide +kernel
theorem dX4_voyages_64 : decode cX4_voyages 64 = .ok (.getfield 42, 3) := by decide +kernel
theorem dX4_voyages_67 : decode cX4_voyages 67 = .ok (.ifCond .eq 11, 3) := by decide +kernel
theorem dX4_voyages_70 : decode cX4_voyages 70 = .ok (.bipush (-10), 2) := by decide +kernel
theorem dX4_voyages_72 : decode cX4_voyages 72 = .ok (.aload_n 0, 1) := by decide +kernel
theorem dX4_voyages_73 : decode cX4_voyages 73 = .ok (.getfield 42, 3) := by decide +kernel
theorem dX4_voyages_76 : decode cX4_voyages 76 = .ok (.isub, 1) := by decide +kernel
theorem dX4_voyages_77 : decode cX4_voyages 77 = .ok (.ireturn, 1) := by decide +kernel
theorem dX4_voyages_78 : decode cX4_voyages 78 = .ok (.aload_n 0, 1) := by decide +kernel
theorem dX4_voyages_79 : decode cX4_voyages 79 = .ok (.getfield 20, 3) := by decide +kernel
theorem dX4_voyages_82 : decode cX4_voyages 82 = .ok (.invokevirtual 96, 3) := by decide +kernel
theorem dX4_voyages_85 : decode cX4_voyages 85 = .ok (.ifCond .ne 6, 3) := by decide +kernel
theorem dX4_voyages_88 : decode cX4_voyages 88 = .ok (.bipush (-3), 2) := by decide +kernel
theorem dX4_voyages_90 : decode cX4_voyages 90 = .ok (.ireturn, 1) := by decide +kernel
theorem dX4_voyages_91 : decode cX4_voyages 91 = .ok (.aload_n 0, 1) := by decide +kernel
theorem dX4_voyages_92 : decode cX4_voyages 92 = .ok (.getfield 20, 3) := by decide +kernel
theorem dX4_voyages_95 : decode cX4_voyages 95 = .ok (.iload_n 1, 1) := by decide +kernel
theorem dX4_voyages_96 : decode cX4_voyages 96 = .ok (.invokevirtual 131, 3) := by decide +kernel
theorem dX4_voyages_99 : decode cX4_voyages 99 = .ok (.ifCond .ne 6, 3) := by decide +kernel
theorem dX4_voyages_102 : decode cX4_voyages 102 = .ok (.bipush (-2), 2) := by decide +kernel
theorem dX4_voyages_104 : decode cX4_voyages 104 = .ok (.ireturn, 1) := by decide +kernel
theorem dX4_voyages_105 : decode cX4_voyages 105 = .ok (.aload_n 0, 1) := by decide +kernel
theorem dX4_voyages_106 : decode cX4_voyages 106 = .ok (.getfield 27, 3) := by decide +kernel
theorem dX4_voyages_109 : decode cX4_voyages 109 = .ok (.aload_n 0, 1) := by decide +kernel
theorem dX4_voyages_110 : decode cX4_voyages 110 = .ok (.getfield 13, 3) := by decide +kernel
theorem dX4_voyages_113 : decode cX4_voyages 113 = .ok (.iload_n 2, 1) := by decide +kernel
theorem dX4_voyages_114 : decode cX4_voyages 114 = .ok (.aaload, 1) := by decide +kernel
theorem dX4_voyages_115 : decode cX4_voyages 115 = .ok (.iload 4, 2) := by decide +kernel
theorem dX4_voyages_117 : decode cX4_voyages 117 = .ok (.iload 5, 2) := by decide +kernel
theorem dX4_voyages_119 : decode cX4_voyages 119 = .ok (.invokevirtual 149, 3) := by decide +kernel
theorem dX4_voyages_122 : decode cX4_voyages 122 = .ok (.aload_n 0, 1) := by decide +kernel
theorem dX4_voyages_123 : decode cX4_voyages 123 = .ok (.getfield 27, 3) := by decide +kernel
theorem dX4_voyages_126 : decode cX4_voyages 126 = .ok (.aload_n 0, 1) := by decide +kernel
theorem dX4_voyages_127 : decode cX4_voyages 127 = .ok (.getfield 20, 3) := by decide +kernel
theorem dX4_voyages_130 : decode cX4_voyages 130 = .ok (.invokevirtual 152, 3) := by decide +kernel
theorem dX4_voyages_133 : decode cX4_voyages 133 = .ok (.istore 7, 2) := by decide +kernel
theorem dX4_voyages_135 : decode cX4_voyages 135 = .ok (.iload 7, 2) := by decide +kernel
theorem dX4_voyages_137 : decode cX4_voyages 137 = .ok (.ifCond .ne 13, 3) := by decide +kernel
theorem dX4_voyages_140 : decode cX4_voyages 140 = .ok (.aload_n 0, 1) := by decide +kernel
theorem dX4_voyages_141 : decode cX4_voyages 141 = .ok (.iload_n 1, 1) := by decide +kernel
theorem dX4_voyages_142 : decode cX4_voyages 142 = .ok (.iload 6, 2) := by decide +kernel
theorem dX4_voyages_144 : decode cX4_voyages 144 = .ok (.invokevirtual 156, 3) := by decide +kernel
theorem dX4_voyages_147 : decode cX4_voyages 147 = .ok (.goto 5, 3) := by decide +kernel
theorem dX4_voyages_150 : decode cX4_voyages 150 = .ok (.iload 7, 2) := by decide +kernel
theorem dX4_voyages_152 : decode cX4_voyages 152 = .ok (.ireturn, 1) := by decide +kernel
set_option maxRecDepth 20000 in
theorem ggX4_meet_X3_firstWrongPair : GoodIn wsX4_meet wsX3_firstWrongPair := goodIn_r _ [7, 8, 9, 91, 92, 93] (by decide +kernel) (by decide +kernel)
set_option maxRecDepth 20000 in
theorem gX4_meet_X3_firstWrongPair : GoodIn wsX4_meet (wsV RX4 159 RX3 yX3_firstWrongPair wsX3_firstWrongPair) := goodIn_app (goodIn_of _ (by decide +kernel)) ggX4_meet_X3_firstWrongPair
set_option maxRecDepth 20000 in
theorem ggX4_meet_X3_takenBy : GoodIn wsX4_meet wsX3_takenBy := goodIn_r _ [13, 8, 14, 9, 15, 16, 17, 18, 19, 20, 21, 22, 23, 24, 25, 26, 27, 28, 29, 30, 31, 32, 33, 34, 35, 36, 37, 38, 39, 40, 41, 42, 43, 44, 45, 46, 47, 48, 49, 50, 51, 52, 91, 92, 93, 94, 95, 96, 97, 98] (by decide +kernel) (by decide +kernel)
set_option maxRecDepth 20000 in
theorem gX4_meet_X3_takenBy : GoodIn wsX4_meet (wsV RX4 162 RX3 yX3_takenBy wsX3_takenBy) := goodIn_app (goodIn_of _ (by decide +kernel)) ggX4_meet_X3_takenBy
set_option maxRecDepth 20000 in
theorem ggX4_meet_X3_howMany : GoodIn wsX4_meet wsX3_howMany := goodIn_r _ [56, 8, 91, 92, 93] (by decide +kernel) (by decide +kernel)
set_option maxRecDepth 20000 in
theorem gX4_meet_X3_howMany : GoodIn wsX4_meet (wsV RX4 166 RX3 yX3_howMany wsX3_howMany) := goodIn_app (goodIn_of _ (by decide +kernel)) ggX4_meet_X3_howMany
set_option maxRecDepth 20000 in
theorem ggX4_meet_J6_bitCount_0f7a4 : GoodIn wsX4_meet wsJ6_bitCount_0f7a4 := goodIn_r _ [60, 61, 62, 63] (by decide +kernel) (by decide +kernel)
set_option maxRecDepth 20000 in
theorem gX4_meet_J6_bitCount_0f7a4 : GoodIn wsX4_meet (va_wsS RX4 167 yJ6_bitCount_0f7a4 wsJ6_bitCount_0f7a4) := goodIn_app (goodIn_of _ (by decide +kernel)) ggX4_meet_J6_bitCount_0f7a4
set_option maxRecDepth 20000 in
theorem ggX4_meet_X3_firstOf : GoodIn wsX4_meet wsX3_firstOf := goodIn_r _ [67, 8, 91, 92, 93] (by decide +kernel) (by decide +kernel)
set_option maxRecDepth 20000 in
theorem gX4_meet_X3_firstOf : GoodIn wsX4_meet (wsV RX4 172 RX3 yX3_firstOf wsX3_firstOf) := goodIn_app (goodIn_of _ (by decide +kernel)) ggX4_meet_X3_firstOf
set_option maxRecDepth 20000 in
theorem ggX4_meet_X3_goodOnes : GoodIn wsX4_meet wsX3_goodOnes := goodIn_r _ [71, 8, 14, 9, 72, 73, 74, 18, 75, 21, 22, 23, 24, 25, 26, 27, 28, 29, 30, 31, 32, 33, 34, 35, 36, 37, 38, 39, 40, 41, 20, 42, 43, 44, 45, 46, 47, 48, 49, 50, 51, 52, 91, 92, 93, 94, 95, 96, 97, 98] (by decide +kernel) (by decide +kernel)
set_option maxRecDepth 20000 in
theorem gX4_meet_X3_goodOnes : GoodIn wsX4_meet (wsV RX4 175 RX3 yX3_goodOnes wsX3_goodOnes) := goodIn_app (goodIn_of _ (by decide +kernel)) ggX4_meet_X3_goodOnes
set_option maxRecDepth 20000 in
theorem ggX4_meet_X4_howOften : GoodIn wsX4_meet wsX4_howOften := goodIn_r _ [79, 2, 1, 80, 39, 40, 18, 41, 20, 81, 82, 83, 6, 84, 8, 14, 50, 51, 52, 57, 58, 59, 60, 61, 62, 63, 85, 86, 87, 88, 89, 90, 94, 95, 96, 97, 98, 91, 92, 93] (by decide +kernel) (by decide +kernel)
set_option maxRecDepth 20000 in
theorem gX4_meet_X4_howOften : GoodIn wsX4_meet (wsV RX4 178 RX4 yX4_howOften wsX4_howOften) := goodIn_app (goodIn_of _ (by decide +kernel)) ggX4_meet_X4_howOften
theorem dX4_meet_0 : decode cX4_meet 0 = .ok (.aload_n 0, 1) := by decide +kernel
theorem dX4_meet_1 : decode cX4_meet 1 = .ok (.getfield 27, 3) := by decide +kernel
theorem dX4_meet_4 : decode cX4_meet 4 = .ok (.invokevirtual 159, 3) := by decide +kernel
theorem dX4_meet_7 : decode cX4_meet 7 = .ok (.istore_n 3, 1) := by decide +kernel
theorem dX4_meet_8 : decode cX4_meet 8 = .ok (.iload_n 2, 1) := by decide +kernel
theorem dX4_meet_9 : decode cX4_meet 9 = .ok (.iconst 1, 1) := by decide +kernel
theorem dX4_meet_10 : decode cX4_meet 10 = .ok (.if_icmp .ne 5, 3) := by decide +kernel
theorem dX4_meet_13 : decode cX4_meet 13 = .ok (.iload_n 3, 1) := by decide +kernel
theorem dX4_meet_14 : decode cX4_meet 14 = .ok (.ireturn, 1) := by decide +kernel
theorem dX4_meet_15 : decode cX4_meet 15 = .ok (.iload_n 3, 1) := by decide +kernel
theorem dX4_meet_16 : decode cX4_meet 16 = .ok (.bipush (-9), 2) := by decide +kernel
theorem dX4_meet_18 : decode cX4_meet 18 = .ok (.if_icmp .eq 8, 3) := by decide +kernel
theorem dX4_meet_21 : decode cX4_meet 21 = .ok (.bipush (-100), 2) := by decide +kernel
theorem dX4_meet_23 : decode cX4_meet 23 = .ok (.iload_n 3, 1) := by decide +kernel
theorem dX4_meet_24 : decode cX4_meet 24 = .ok (.isub, 1) := by decide +kernel
theorem dX4_meet_25 : decode cX4_meet 25 = .ok (.ireturn, 1) := by decide +kernel
theorem dX4_meet_26 : decode cX4_meet 26 = .ok (.aload_n 0, 1) := by decide +kernel
theorem dX4_meet_27 : decode cX4_meet 27 = .ok (.getfield 27, 3) := by decide +kernel
theorem dX4_meet_30 : decode cX4_meet 30 = .ok (.aload_n 0, 1) := by decide +kernel
theorem dX4_meet_31 : decode cX4_meet 31 = .ok (.getfield 20, 3) := by decide +kernel
theorem dX4_meet_34 : decode cX4_meet 34 = .ok (.iload_n 1, 1) := by decide +kernel
theorem dX4_meet_35 : decode cX4_meet 35 = .ok (.invokevirtual 162, 3) := by decide +kernel
theorem dX4_meet_38 : decode cX4_meet 38 = .ok (.istore 4, 2) := by decide +kernel
theorem dX4_meet_40 : decode cX4_meet 40 = .ok (.iload_n 2, 1) := by decide +kernel
theorem dX4_meet_41 : decode cX4_meet 41 = .ok (.tableswitch 73 0 3 #[31, 73, 45, 55], 31) := by decide +kernel
theorem dX4_meet_72 : decode cX4_meet 72 = .ok (.aload_n 0, 1) := by decide +kernel
theorem dX4_meet_73 : decode cX4_meet 73 = .ok (.getfield 27, 3) := by decide +kernel
theorem dX4_meet_76 : decode cX4_meet 76 = .ok (.invokevirtual 166, 3) := by decide +kernel
theorem dX4_meet_79 : decode cX4_meet 79 = .ok (.iload 4, 2) := by decide +kernel
theorem dX4_meet_81 : decode cX4_meet 81 = .ok (.invokestatic 167, 3) := by decide +kernel
theorem dX4_meet_84 : decode cX4_meet 84 = .ok (.isub, 1) := by decide +kernel
theorem dX4_meet_85 : decode cX4_meet 85 = .ok (.ireturn, 1) := by decide +kernel
theorem dX4_meet_86 : decode cX4_meet 86 = .ok (.aload_n 0, 1) := by decide +kernel
theorem dX4_meet_87 : decode cX4_meet 87 = .ok (.getfield 27, 3) := by decide +kernel
theorem dX4_meet_90 : decode cX4_meet 90 = .ok (.iload 4, 2) := by decide +kernel
theorem dX4_meet_92 : decode cX4_meet 92 = .ok (.invokevirtual 172, 3) := by decide +kernel
theorem dX4_meet_95 : decode cX4_meet 95 = .ok (.ireturn, 1) := by decide +kernel
theorem dX4_meet_96 : decode cX4_meet 96 = .ok (.iload 4, 2) := by decide +kernel
theorem dX4_meet_98 : decode cX4_meet 98 = .ok (.aload_n 0, 1) := by decide +kernel
theorem dX4_meet_99 : decode cX4_meet 99 = .ok (.getfield 27, 3) := by decide +kernel
theorem dX4_meet_102 : decode cX4_meet 102 = .ok (.aload_n 0, 1) := by decide +kernel
theorem dX4_meet_103 : decode cX4_meet 103 = .ok (.getfield 20, 3) := by decide +kernel
theorem dX4_meet_106 : decode cX4_meet 106 = .ok (.invokevirtual 175, 3) := by decide +kernel
theorem dX4_meet_109 : decode cX4_meet 109 = .ok (.iand, 1) := by decide +kernel
theorem dX4_meet_110 : decode cX4_meet 110 = .ok (.invokestatic 167, 3) := by decide +kernel
theorem dX4_meet_113 : decode cX4_meet 113 = .ok (.ireturn, 1) := by decide +kernel
theorem dX4_meet_114 : decode cX4_meet 114 = .ok (.aload_n 0, 1) := by decide +kernel
theorem dX4_meet_115 : decode cX4_meet 115 = .ok (.iload 4, 2) := by decide +kernel
theorem dX4_meet_117 : decode cX4_meet 117 = .ok (.iload_n 2, 1) := by decide +kernel
theorem dX4_meet_118 : decode cX4_meet 118 = .ok (.bipush 10, 2) := by decide +kernel
theorem dX4_meet_120 : decode cX4_meet 120 = .ok (.isub, 1) := by decide +kernel
theorem dX4_meet_121 : decode cX4_meet 121 = .ok (.invokevirtual 178, 3) := by decide +kernel
theorem dX4_meet_124 : decode cX4_meet 124 = .ok (.ireturn, 1) := by decide +kernel
set_option maxRecDepth 20000 in
theorem ggX4_howOften_X0_hasPass : GoodIn wsX4_howOften wsX0_hasPass := goodIn_r _ [7, 8, 32, 33, 34, 35, 36] (by decide +kernel) (by decide +kernel)
set_option maxRecDepth 20000 in
theorem gX4_howOften_X0_hasPass : GoodIn wsX4_howOften (wsV RX4 74 RX0 yX0_hasPass wsX0_hasPass) := goodIn_app (goodIn_of _ (by decide +kernel)) ggX4_howOften_X0_hasPass
set_option maxRecDepth 20000 in
theorem ggX4_howOften_X3_onesOf : GoodIn wsX4_howOften wsX3_onesOf := goodIn_r _ [13, 14, 15, 16, 17, 18, 37, 38, 39] (by decide +kernel) (by decide +kernel)
set_option maxRecDepth 20000 in
theorem gX4_howOften_X3_onesOf : GoodIn wsX4_howOften (wsV RX4 181 RX3 yX3_onesOf wsX3_onesOf) := goodIn_app (goodIn_of _ (by decide +kernel)) ggX4_howOften_X3_onesOf
set_option maxRecDepth 20000 in
theorem ggX4_howOften_J6_bitCount_0f7a4 : GoodIn wsX4_howOften wsJ6_bitCount_0f7a4 := goodIn_r _ [22, 23, 24, 25] (by decide +kernel) (by decide +kernel)
set_option maxRecDepth 20000 in
theorem gX4_howOften_J6_bitCount_0f7a4 : GoodIn wsX4_howOften (va_wsS RX4 167 yJ6_bitCount_0f7a4 wsJ6_bitCount_0f7a4) := goodIn_app (goodIn_of _ (by decide +kernel)) ggX4_howOften_J6_bitCount_0f7a4
theorem dX4_howOften_0 : decode cX4_howOften 0 = .ok (.aload_n 0, 1) := by decide +kernel
theorem dX4_howOften_1 : decode cX4_howOften 1 = .ok (.getfield 20, 3) := by decide +kernel
theorem dX4_howOften_4 : decode cX4_howOften 4 = .ok (.iload_n 2, 1) := by decide +kernel
theorem dX4_howOften_5 : decode cX4_howOften 5 = .ok (.invokevirtual 74, 3) := by decide +kernel
theorem dX4_howOften_8 : decode cX4_howOften 8 = .ok (.ifCond .eq 19, 3) := by decide +kernel
theorem dX4_howOften_11 : decode cX4_howOften 11 = .ok (.iload_n 1, 1) := by decide +kernel
theorem dX4_howOften_12 : decode cX4_howOften 12 = .ok (.aload_n 0, 1) := by decide +kernel
theorem dX4_howOften_13 : decode cX4_howOften 13 = .ok (.getfield 27, 3) := by decide +kernel
theorem dX4_howOften_16 : decode cX4_howOften 16 = .ok (.iload_n 2, 1) := by decide +kernel
theorem dX4_howOften_17 : decode cX4_howOften 17 = .ok (.invokevirtual 181, 3) := by decide +kernel
theorem dX4_howOften_20 : decode cX4_howOften 20 = .ok (.iand, 1) := by decide +kernel
theorem dX4_howOften_21 : decode cX4_howOften 21 = .ok (.invokestatic 167, 3) := by decide +kernel
theorem dX4_howOften_24 : decode cX4_howOften 24 = .ok (.goto 5, 3) := by decide +kernel
theorem dX4_howOften_27 : decode cX4_howOften 27 = .ok (.bipush (-9), 2) := by decide +kernel
theorem dX4_howOften_29 : decode cX4_howOften 29 = .ok (.ireturn, 1) := by decide +kernel
set_option maxRecDepth 20000 in
theorem ggX4_reading_X0_hasPass : GoodIn wsX4_reading wsX0_hasPass := goodIn_r _ [7, 8, 36, 37, 38, 39, 40] (by decide +kernel) (by decide +kernel)
set_option maxRecDepth 20000 in
theorem gX4_reading_X0_hasPass : GoodIn wsX4_reading (wsV RX4 74 RX0 yX0_hasPass wsX0_hasPass) := goodIn_app (goodIn_of _ (by decide +kernel)) ggX4_reading_X0_hasPass
set_option maxRecDepth 20000 in
theorem ggX4_reading_X4_isMonths : GoodIn wsX4_reading wsX4_isMonths := goodIn_r _ [12, 13, 14, 11, 15] (by decide +kernel) (by decide +kernel)
set_option maxRecDepth 20000 in
theorem gX4_reading_X4_isMonths : GoodIn wsX4_reading (va_wsS RX4 106 yX4_isMonths wsX4_isMonths) := goodIn_app (goodIn_of _ (by decide +kernel)) ggX4_reading_X4_isMonths
set_option maxRecDepth 20000 in
theorem ggX4_reading_X1_howMany : GoodIn wsX4_reading wsX1_howMany := goodIn_r _ [20, 21, 41, 42, 43, 44, 45] (by decide +kernel) (by decide +kernel)
set_option maxRecDepth 20000 in
theorem gX4_reading_X1_howMany : GoodIn wsX4_reading (wsV RX4 65 RX1 yX1_howMany wsX1_howMany) := goodIn_app (goodIn_of _ (by decide +kernel)) ggX4_reading_X1_howMany
set_option maxRecDepth 20000 in
theorem ggX4_reading_X1_append : GoodIn wsX4_reading wsX1_append := goodIn_r _ [25, 21, 26, 27, 28, 29, 41, 42, 43, 44, 45] (by decide +kernel) (by decide +kernel)
set_option maxRecDepth 20000 in
theorem gX4_reading_X1_append : GoodIn wsX4_reading (wsV RX4 184 RX1 yX1_append wsX1_append) := goodIn_app (goodIn_of _ (by decide +kernel)) ggX4_reading_X1_append
theorem dX4_reading_0 : decode cX4_reading 0 = .ok (.aload_n 0, 1) := by decide +kernel
theorem dX4_reading_1 : decode cX4_reading 1 = .ok (.getfield 20, 3) := by decide +kernel
theorem dX4_reading_4 : decode cX4_reading 4 = .ok (.iload_n 1, 1) := by decide +kernel
theorem dX4_reading_5 : decode cX4_reading 5 = .ok (.invokevirtual 74, 3) := by decide +kernel
theorem dX4_reading_8 : decode cX4_reading 8 = .ok (.ifCond .eq 14, 3) := by decide +kernel
theorem dX4_reading_11 : decode cX4_reading 11 = .ok (.aload_n 0, 1) := by decide +kernel
theorem dX4_reading_12 : decode cX4_reading 12 = .ok (.getfield 20, 3) := by decide +kernel
theorem dX4_reading_15 : decode cX4_reading 15 = .ok (.iload_n 2, 1) := by decide +kernel
theorem dX4_reading_16 : decode cX4_reading 16 = .ok (.invokevirtual 74, 3) := by decide +kernel
theorem dX4_reading_19 : decode cX4_reading 19 = .ok (.ifCond .ne 5, 3) := by decide +kernel
theorem dX4_reading_22 : decode cX4_reading 22 = .ok (.iconst (-1), 1) := by decide +kernel
theorem dX4_reading_23 : decode cX4_reading 23 = .ok (.ireturn, 1) := by decide +kernel
theorem dX4_reading_24 : decode cX4_reading 24 = .ok (.iload_n 3, 1) := by decide +kernel
theorem dX4_reading_25 : decode cX4_reading 25 = .ok (.invokestatic 106, 3) := by decide +kernel
theorem dX4_reading_28 : decode cX4_reading 28 = .ok (.ifCond .ne 6, 3) := by decide +kernel
theorem dX4_reading_31 : decode cX4_reading 31 = .ok (.bipush (-2), 2) := by decide +kernel
theorem dX4_reading_33 : decode cX4_reading 33 = .ok (.ireturn, 1) := by decide +kernel
theorem dX4_reading_34 : decode cX4_reading 34 = .ok (.aload_n 0, 1) := by decide +kernel
theorem dX4_reading_35 : decode cX4_reading 35 = .ok (.getfield 34, 3) := by decide +kernel
theorem dX4_reading_38 : decode cX4_reading 38 = .ok (.invokevirtual 65, 3) := by decide +kernel
theorem dX4_reading_41 : decode cX4_reading 41 = .ok (.bipush 8, 2) := by decide +kernel
theorem dX4_reading_43 : decode cX4_reading 43 = .ok (.if_icmp .lt 6, 3) := by decide +kernel
theorem dX4_reading_46 : decode cX4_reading 46 = .ok (.bipush (-4), 2) := by decide +kernel
theorem dX4_reading_48 : decode cX4_reading 48 = .ok (.ireturn, 1) := by decide +kernel
theorem dX4_reading_49 : decode cX4_reading 49 = .ok (.aload_n 0, 1) := by decide +kernel
theorem dX4_reading_50 : decode cX4_reading 50 = .ok (.getfield 34, 3) := by decide +kernel
theorem dX4_reading_53 : decode cX4_reading 53 = .ok (.iload_n 1, 1) := by decide +kernel
theorem dX4_reading_54 : decode cX4_reading 54 = .ok (.iload_n 2, 1) := by decide +kernel
theorem dX4_reading_55 : decode cX4_reading 55 = .ok (.iload_n 3, 1) := by decide +kernel
theorem dX4_reading_56 : decode cX4_reading 56 = .ok (.iload 4, 2) := by decide +kernel
theorem dX4_reading_58 : decode cX4_reading 58 = .ok (.invokevirtual 184, 3) := by decide +kernel
theorem dX4_reading_61 : decode cX4_reading 61 = .ok (.aload_n 0, 1) := by decide +kernel
theorem dX4_reading_62 : decode cX4_reading 62 = .ok (.getfield 34, 3) := by decide +kernel
theorem dX4_reading_65 : decode cX4_reading 65 = .ok (.invokevirtual 65, 3) := by decide +kernel
theorem dX4_reading_68 : decode cX4_reading 68 = .ok (.iconst 1, 1) := by decide +kernel
theorem dX4_reading_69 : decode cX4_reading 69 = .ok (.isub, 1) := by decide +kernel
theorem dX4_reading_70 : decode cX4_reading 70 = .ok (.ireturn, 1) := by decide +kernel
set_option maxRecDepth 20000 in
theorem ggX4_back_X1_howMany : GoodIn wsX4_back wsX1_howMany := goodIn_r _ [6, 7, 22, 23, 24, 25, 26] (by decide +kernel) (by decide +kernel)
set_option maxRecDepth 20000 in
theorem gX4_back_X1_howMany : GoodIn wsX4_back (wsV RX4 65 RX1 yX1_howMany wsX1_howMany) := goodIn_app (goodIn_of _ (by decide +kernel)) ggX4_back_X1_howMany
set_option maxRecDepth 20000 in
theorem ggX4_back_X4_within : GoodIn wsX4_back wsX4_within := goodIn_r _ [11] (by decide +kernel) (by decide +kernel)
set_option maxRecDepth 20000 in
theorem gX4_back_X4_within : GoodIn wsX4_back (va_wsS RX4 77 yX4_within wsX4_within) := goodIn_app (goodIn_of _ (by decide +kernel)) ggX4_back_X4_within
set_option maxRecDepth 20000 in
theorem ggX4_back_X1_dropLast : GoodIn wsX4_back wsX1_dropLast := goodIn_r _ [15, 7, 22, 23, 24, 25, 26] (by decide +kernel) (by decide +kernel)
set_option maxRecDepth 20000 in
theorem gX4_back_X1_dropLast : GoodIn wsX4_back (wsV RX4 69 RX1 yX1_dropLast wsX1_dropLast) := goodIn_app (goodIn_of _ (by decide +kernel)) ggX4_back_X1_dropLast
theorem dX4_back_0 : decode cX4_back 0 = .ok (.iload_n 1, 1) := by decide +kernel
theorem dX4_back_1 : decode cX4_back 1 = .ok (.iconst 0, 1) := by decide +kernel
theorem dX4_back_2 : decode cX4_back 2 = .ok (.aload_n 0, 1) := by decide +kernel
theorem dX4_back_3 : decode cX4_back 3 = .ok (.getfield 34, 3) := by decide +kernel
theorem dX4_back_6 : decode cX4_back 6 = .ok (.invokevirtual 65, 3) := by decide +kernel
theorem dX4_back_9 : decode cX4_back 9 = .ok (.invokestatic 77, 3) := by decide +kernel
theorem dX4_back_12 : decode cX4_back 12 = .ok (.ifCond .ne 6, 3) := by decide +kernel
theorem dX4_back_15 : decode cX4_back 15 = .ok (.bipush (-2), 2) := by decide +kernel
theorem dX4_back_17 : decode cX4_back 17 = .ok (.ireturn, 1) := by decide +kernel
theorem dX4_back_18 : decode cX4_back 18 = .ok (.aload_n 0, 1) := by decide +kernel
theorem dX4_back_19 : decode cX4_back 19 = .ok (.getfield 34, 3) := by decide +kernel
theorem dX4_back_22 : decode cX4_back 22 = .ok (.iload_n 1, 1) := by decide +kernel
theorem dX4_back_23 : decode cX4_back 23 = .ok (.invokevirtual 69, 3) := by decide +kernel
theorem dX4_back_26 : decode cX4_back 26 = .ok (.aload_n 0, 1) := by decide +kernel
theorem dX4_back_27 : decode cX4_back 27 = .ok (.getfield 34, 3) := by decide +kernel
theorem dX4_back_30 : decode cX4_back 30 = .ok (.invokevirtual 65, 3) := by decide +kernel
theorem dX4_back_33 : decode cX4_back 33 = .ok (.ireturn, 1) := by decide +kernel
set_option maxRecDepth 20000 in
theorem ggX4_edges_X0_hasPass : GoodIn wsX4_edges wsX0_hasPass := goodIn_r _ [7, 8, 70, 71, 72, 73, 74] (by decide +kernel) (by decide +kernel)
set_option maxRecDepth 20000 in
theorem gX4_edges_X0_hasPass : GoodIn wsX4_edges (wsV RX4 74 RX0 yX0_hasPass wsX0_hasPass) := goodIn_app (goodIn_of _ (by decide +kernel)) ggX4_edges_X0_hasPass
set_option maxRecDepth 20000 in
theorem ggX4_edges_X4_isPlace : GoodIn wsX4_edges wsX4_isPlace := goodIn_r _ [12, 13, 14, 11, 15] (by decide +kernel) (by decide +kernel)
set_option maxRecDepth 20000 in
theorem gX4_edges_X4_isPlace : GoodIn wsX4_edges (va_wsS RX4 89 yX4_isPlace wsX4_isPlace) := goodIn_app (goodIn_of _ (by decide +kernel)) ggX4_edges_X4_isPlace
set_option maxRecDepth 20000 in
theorem ggX4_edges_X0_heightOf : GoodIn wsX4_edges wsX0_heightOf := goodIn_r _ [19, 20, 21, 4, 5, 6, 7, 8, 70, 71, 72, 73, 74] (by decide +kernel) (by decide +kernel)
set_option maxRecDepth 20000 in
theorem gX4_edges_X0_heightOf : GoodIn wsX4_edges (wsV RX4 85 RX0 yX0_heightOf wsX0_heightOf) := goodIn_app (goodIn_of _ (by decide +kernel)) ggX4_edges_X0_heightOf
set_option maxRecDepth 20000 in
theorem ggX4_edges_X0_setHeight : GoodIn wsX4_edges wsX0_setHeight := goodIn_r _ [25, 20, 21, 4, 5, 6, 7, 8, 70, 71, 72, 73, 74] (by decide +kernel) (by decide +kernel)
set_option maxRecDepth 20000 in
theorem gX4_edges_X0_setHeight : GoodIn wsX4_edges (wsV RX4 92 RX0 yX0_setHeight wsX0_setHeight) := goodIn_app (goodIn_of _ (by decide +kernel)) ggX4_edges_X0_setHeight
set_option maxRecDepth 20000 in
theorem ggX4_edges_X1_areSo : GoodIn wsX4_edges wsX1_areSo := goodIn_r _ [30, 31, 32, 33, 34, 35, 36, 37, 38, 6, 39, 40, 41, 42, 43, 44, 45, 46, 47, 48, 49, 50, 51, 52, 53, 54, 55, 56, 21, 4, 5, 7, 8, 57, 58, 59, 60, 17, 18, 19, 20, 75, 76, 77, 78, 79, 70, 71, 72, 73, 74] (by decide +kernel) (by decide +kernel)
set_option maxRecDepth 20000 in
theorem gX4_edges_X1_areSo : GoodIn wsX4_edges (wsV RX4 188 RX1 yX1_areSo wsX1_areSo) := goodIn_app (goodIn_of _ (by decide +kernel)) ggX4_edges_X1_areSo
set_option maxRecDepth 20000 in
theorem ggX4_edges_X4_bitIf : GoodIn wsX4_edges wsX4_bitIf := goodIn_r _ [63] (by decide +kernel) (by decide +kernel)
set_option maxRecDepth 20000 in
theorem gX4_edges_X4_bitIf : GoodIn wsX4_edges (va_wsS RX4 192 yX4_bitIf wsX4_bitIf) := goodIn_app (goodIn_of _ (by decide +kernel)) ggX4_edges_X4_bitIf
theorem dX4_edges_0 : decode cX4_edges 0 = .ok (.aload_n 0, 1) := by decide +kernel
theorem dX4_edges_1 : decode cX4_edges 1 = .ok (.getfield 20, 3) := by decide +kernel
theorem dX4_edges_4 : decode cX4_edges 4 = .ok (.iload_n 1, 1) := by decide +kernel
theorem dX4_edges_5 : decode cX4_edges 5 = .ok (.invokevirtual 74, 3) := by decide +kernel
theorem dX4_edges_8 : decode cX4_edges 8 = .ok (.ifCond .ne 5, 3) := by decide +kernel
theorem dX4_edges_11 : decode cX4_edges 11 = .ok (.iconst (-1), 1) := by decide +kernel
theorem dX4_edges_12 : decode cX4_edges 12 = .ok (.ireturn, 1) := by decide +kernel
theorem dX4_edges_13 : decode cX4_edges 13 = .ok (.iload_n 2, 1) := by decide +kernel
theorem dX4_edges_14 : decode cX4_edges 14 = .ok (.invokestatic 89, 3) := by decide +kernel
theorem dX4_edges_17 : decode cX4_edges 17 = .ok (.ifCond .ne 6, 3) := by decide +kernel
theorem dX4_edges_20 : decode cX4_edges 20 = .ok (.bipush (-2), 2) := by decide +kernel
theorem dX4_edges_22 : decode cX4_edges 22 = .ok (.ireturn, 1) := by decide +kernel
theorem dX4_edges_23 : decode cX4_edges 23 = .ok (.aload_n 0, 1) := by decide +kernel
theorem dX4_edges_24 : decode cX4_edges 24 = .ok (.getfield 20, 3) := by decide +kernel
theorem dX4_edges_27 : decode cX4_edges 27 = .ok (.iload_n 1, 1) := by decide +kernel
theorem dX4_edges_28 : decode cX4_edges 28 = .ok (.iload_n 2, 1) := by decide +kernel
theorem dX4_edges_29 : decode cX4_edges 29 = .ok (.invokevirtual 85, 3) := by decide +kernel
theorem dX4_edges_32 : decode cX4_edges 32 = .ok (.istore_n 3, 1) := by decide +kernel
theorem dX4_edges_33 : decode cX4_edges 33 = .ok (.iconst 0, 1) := by decide +kernel
theorem dX4_edges_34 : decode cX4_edges 34 = .ok (.istore 4, 2) := by decide +kernel
theorem dX4_edges_36 : decode cX4_edges 36 = .ok (.iconst 0, 1) := by decide +kernel
theorem dX4_edges_37 : decode cX4_edges 37 = .ok (.istore 5, 2) := by decide +kernel
theorem dX4_edges_39 : decode cX4_edges 39 = .ok (.iload 5, 2) := by decide +kernel
theorem dX4_edges_41 : decode cX4_edges 41 = .ok (.bipush 9, 2) := by decide +kernel
theorem dX4_edges_43 : decode cX4_edges 43 = .ok (.if_icmp .gt 41, 3) := by decide +kernel
theorem dX4_edges_46 : decode cX4_edges 46 = .ok (.aload_n 0, 1) := by decide +kernel
theorem dX4_edges_47 : decode cX4_edges 47 = .ok (.getfield 20, 3) := by decide +kernel
theorem dX4_edges_50 : decode cX4_edges 50 = .ok (.iload_n 1, 1) := by decide +kernel
theorem dX4_edges_51 : decode cX4_edges 51 = .ok (.iload_n 2, 1) := by decide +kernel
theorem dX4_edges_52 : decode cX4_edges 52 = .ok (.iload 5, 2) := by decide +kernel
theorem dX4_edges_54 : decode cX4_edges 54 = .ok (.invokevirtual 92, 3) := by decide +kernel
theorem dX4_edges_57 : decode cX4_edges 57 = .ok (.iload 4, 2) := by decide +kernel
theorem dX4_edges_59 : decode cX4_edges 59 = .ok (.aload_n 0, 1) := by decide +kernel
theorem dX4_edges_60 : decode cX4_edges 60 = .ok (.getfield 34, 3) := by decide +kernel
theorem dX4_edges_63 : decode cX4_edges 63 = .ok (.aload_n 0, 1) := by decide +kernel
theorem dX4_edges_64 : decode cX4_edges 64 = .ok (.getfield 20, 3) := by decide +kernel
theorem dX4_edges_67 : decode cX4_edges 67 = .ok (.invokevirtual 188, 3) := by decide +kernel
theorem dX4_edges_70 : decode cX4_edges 70 = .ok (.iload 5, 2) := by decide +kernel
theorem dX4_edges_72 : decode cX4_edges 72 = .ok (.invokestatic 192, 3) := by decide +kernel
theorem dX4_edges_75 : decode cX4_edges 75 = .ok (.ior, 1) := by decide +kernel
theorem dX4_edges_76 : decode cX4_edges 76 = .ok (.istore 4, 2) := by decide +kernel
theorem dX4_edges_78 : decode cX4_edges 78 = .ok (.iinc 5 1, 3) := by decide +kernel
theorem dX4_edges_81 : decode cX4_edges 81 = .ok (.goto (-42), 3) := by decide +kernel
theorem dX4_edges_84 : decode cX4_edges 84 = .ok (.aload_n 0, 1) := by decide +kernel
theorem dX4_edges_85 : decode cX4_edges 85 = .ok (.getfield 20, 3) := by decide +kernel
theorem dX4_edges_88 : decode cX4_edges 88 = .ok (.iload_n 1, 1) := by decide +kernel
theorem dX4_edges_89 : decode cX4_edges 89 = .ok (.iload_n 2, 1) := by decide +kernel
theorem dX4_edges_90 : decode cX4_edges 90 = .ok (.iload_n 3, 1) := by decide +kernel
theorem dX4_edges_91 : decode cX4_edges 91 = .ok (.invokevirtual 92, 3) := by decide +kernel
theorem dX4_edges_94 : decode cX4_edges 94 = .ok (.iload 4, 2) := by decide +kernel
theorem dX4_edges_96 : decode cX4_edges 96 = .ok (.ireturn, 1) := by decide +kernel
set_option maxRecDepth 20000 in
theorem ggX4_kinds_X0_hasPass : GoodIn wsX4_kinds wsX0_hasPass := goodIn_r _ [7, 8, 64, 65, 66, 67, 68] (by decide +kernel) (by decide +kernel)
set_option maxRecDepth 20000 in
theorem gX4_kinds_X0_hasPass : GoodIn wsX4_kinds (wsV RX4 74 RX0 yX0_hasPass wsX0_hasPass) := goodIn_app (goodIn_of _ (by decide +kernel)) ggX4_kinds_X0_hasPass
set_option maxRecDepth 20000 in
theorem ggX4_kinds_X0_kindOf : GoodIn wsX4_kinds wsX0_kindOf := goodIn_r _ [12, 13, 14, 4, 5, 6, 7, 8, 64, 65, 66, 67, 68] (by decide +kernel) (by decide +kernel)
set_option maxRecDepth 20000 in
theorem gX4_kinds_X0_kindOf : GoodIn wsX4_kinds (wsV RX4 81 RX0 yX0_kindOf wsX0_kindOf) := goodIn_app (goodIn_of _ (by decide +kernel)) ggX4_kinds_X0_kindOf
set_option maxRecDepth 20000 in
theorem ggX4_kinds_X0_setKind : GoodIn wsX4_kinds wsX0_setKind := goodIn_r _ [18, 13, 14, 4, 5, 6, 7, 8, 64, 65, 66, 67, 68] (by decide +kernel) (by decide +kernel)
set_option maxRecDepth 20000 in
theorem gX4_kinds_X0_setKind : GoodIn wsX4_kinds (wsV RX4 196 RX0 yX0_setKind wsX0_setKind) := goodIn_app (goodIn_of _ (by decide +kernel)) ggX4_kinds_X0_setKind
set_option maxRecDepth 20000 in
theorem ggX4_kinds_X1_areSo : GoodIn wsX4_kinds wsX1_areSo := goodIn_r _ [23, 24, 25, 26, 27, 28, 29, 30, 31, 6, 32, 33, 34, 35, 36, 37, 38, 39, 40, 41, 42, 43, 44, 45, 10, 11, 12, 13, 14, 4, 5, 7, 8, 46, 47, 48, 49, 50, 51, 52, 53, 69, 70, 71, 72, 73, 64, 65, 66, 67, 68] (by decide +kernel) (by decide +kernel)
set_option maxRecDepth 20000 in
theorem gX4_kinds_X1_areSo : GoodIn wsX4_kinds (wsV RX4 188 RX1 yX1_areSo wsX1_areSo) := goodIn_app (goodIn_of _ (by decide +kernel)) ggX4_kinds_X1_areSo
set_option maxRecDepth 20000 in
theorem ggX4_kinds_X4_bitIf : GoodIn wsX4_kinds wsX4_bitIf := goodIn_r _ [57] (by decide +kernel) (by decide +kernel)
set_option maxRecDepth 20000 in
theorem gX4_kinds_X4_bitIf : GoodIn wsX4_kinds (va_wsS RX4 192 yX4_bitIf wsX4_bitIf) := goodIn_app (goodIn_of _ (by decide +kernel)) ggX4_kinds_X4_bitIf
theorem dX4_kinds_0 : decode cX4_kinds 0 = .ok (.aload_n 0, 1) := by decide +kernel
theorem dX4_kinds_1 : decode cX4_kinds 1 = .ok (.getfield 20, 3) := by decide +kernel
theorem dX4_kinds_4 : decode cX4_kinds 4 = .ok (.iload_n 1, 1) := by decide +kernel
theorem dX4_kinds_5 : decode cX4_kinds 5 = .ok (.invokevirtual 74, 3) := by decide +kernel
theorem dX4_kinds_8 : decode cX4_kinds 8 = .ok (.ifCond .ne 5, 3) := by decide +kernel
theorem dX4_kinds_11 : decode cX4_kinds 11 = .ok (.iconst (-1), 1) := by decide +kernel
theorem dX4_kinds_12 : decode cX4_kinds 12 = .ok (.ireturn, 1) := by decide +kernel
theorem dX4_kinds_13 : decode cX4_kinds 13 = .ok (.aload_n 0, 1) := by decide +kernel
theorem dX4_kinds_14 : decode cX4_kinds 14 = .ok (.getfield 20, 3) := by decide +kernel
theorem dX4_kinds_17 : decode cX4_kinds 17 = .ok (.iload_n 1, 1) := by decide +kernel
theorem dX4_kinds_18 : decode cX4_kinds 18 = .ok (.invokevirtual 81, 3) := by decide +kernel
theorem dX4_kinds_21 : decode cX4_kinds 21 = .ok (.istore_n 2, 1) := by decide +kernel
theorem dX4_kinds_22 : decode cX4_kinds 22 = .ok (.iconst 0, 1) := by decide +kernel
theorem dX4_kinds_23 : decode cX4_kinds 23 = .ok (.istore_n 3, 1) := by decide +kernel
theorem dX4_kinds_24 : decode cX4_kinds 24 = .ok (.iconst 0, 1) := by decide +kernel
theorem dX4_kinds_25 : decode cX4_kinds 25 = .ok (.istore 4, 2) := by decide +kernel
theorem dX4_kinds_27 : decode cX4_kinds 27 = .ok (.iload 4, 2) := by decide +kernel
theorem dX4_kinds_29 : decode cX4_kinds 29 = .ok (.iconst 2, 1) := by decide +kernel
theorem dX4_kinds_30 : decode cX4_kinds 30 = .ok (.if_icmp .gt 38, 3) := by decide +kernel
theorem dX4_kinds_33 : decode cX4_kinds 33 = .ok (.aload_n 0, 1) := by decide +kernel
theorem dX4_kinds_34 : decode cX4_kinds 34 = .ok (.getfield 20, 3) := by decide +kernel
theorem dX4_kinds_37 : decode cX4_kinds 37 = .ok (.iload_n 1, 1) := by decide +kernel
theorem dX4_kinds_38 : decode cX4_kinds 38 = .ok (.iload 4, 2) := by decide +kernel
theorem dX4_kinds_40 : decode cX4_kinds 40 = .ok (.invokevirtual 196, 3) := by decide +kernel
theorem dX4_kinds_43 : decode cX4_kinds 43 = .ok (.iload_n 3, 1) := by decide +kernel
theorem dX4_kinds_44 : decode cX4_kinds 44 = .ok (.aload_n 0, 1) := by decide +kernel
theorem dX4_kinds_45 : decode cX4_kinds 45 = .ok (.getfield 34, 3) := by decide +kernel
theorem dX4_kinds_48 : decode cX4_kinds 48 = .ok (.aload_n 0, 1) := by decide +kernel
theorem dX4_kinds_49 : decode cX4_kinds 49 = .ok (.getfield 20, 3) := by decide +kernel
theorem dX4_kinds_52 : decode cX4_kinds 52 = .ok (.invokevirtual 188, 3) := by decide +kernel
theorem dX4_kinds_55 : decode cX4_kinds 55 = .ok (.iload 4, 2) := by decide +kernel
theorem dX4_kinds_57 : decode cX4_kinds 57 = .ok (.invokestatic 192, 3) := by decide +kernel
theorem dX4_kinds_60 : decode cX4_kinds 60 = .ok (.ior, 1) := by decide +kernel
theorem dX4_kinds_61 : decode cX4_kinds 61 = .ok (.istore_n 3, 1) := by decide +kernel
theorem dX4_kinds_62 : decode cX4_kinds 62 = .ok (.iinc 4 1, 3) := by decide +kernel
theorem dX4_kinds_65 : decode cX4_kinds 65 = .ok (.goto (-38), 3) := by decide +kernel
theorem dX4_kinds_68 : decode cX4_kinds 68 = .ok (.aload_n 0, 1) := by decide +kernel
theorem dX4_kinds_69 : decode cX4_kinds 69 = .ok (.getfield 20, 3) := by decide +kernel
theorem dX4_kinds_72 : decode cX4_kinds 72 = .ok (.iload_n 1, 1) := by decide +kernel
theorem dX4_kinds_73 : decode cX4_kinds 73 = .ok (.iload_n 2, 1) := by decide +kernel
theorem dX4_kinds_74 : decode cX4_kinds 74 = .ok (.invokevirtual 196, 3) := by decide +kernel
theorem dX4_kinds_77 : decode cX4_kinds 77 = .ok (.iload_n 3, 1) := by decide +kernel
theorem dX4_kinds_78 : decode cX4_kinds 78 = .ok (.ireturn, 1) := by decide +kernel
set_option maxRecDepth 20000 in
theorem ggX4_slacks_X0_stands : GoodIn wsX4_slacks wsX0_stands := goodIn_r _ [7, 8, 70, 71, 72, 73, 74] (by decide +kernel) (by decide +kernel)
set_option maxRecDepth 20000 in
theorem gX4_slacks_X0_stands : GoodIn wsX4_slacks (wsV RX4 96 RX0 yX0_stands wsX0_stands) := goodIn_app (goodIn_of _ (by decide +kernel)) ggX4_slacks_X0_stands
set_option maxRecDepth 20000 in
theorem ggX4_slacks_X0_slackNow : GoodIn wsX4_slacks wsX0_slackNow := goodIn_r _ [12, 13, 70, 71, 72, 73, 74] (by decide +kernel) (by decide +kernel)
set_option maxRecDepth 20000 in
theorem gX4_slacks_X0_slackNow : GoodIn wsX4_slacks (wsV RX4 100 RX0 yX0_slackNow wsX0_slackNow) := goodIn_app (goodIn_of _ (by decide +kernel)) ggX4_slacks_X0_slackNow
set_option maxRecDepth 20000 in
theorem ggX4_slacks_X0_setSlack : GoodIn wsX4_slacks wsX0_setSlack := goodIn_r _ [17, 13, 70, 71, 72, 73, 74] (by decide +kernel) (by decide +kernel)
set_option maxRecDepth 20000 in
theorem gX4_slacks_X0_setSlack : GoodIn wsX4_slacks (wsV RX4 103 RX0 yX0_setSlack wsX0_setSlack) := goodIn_app (goodIn_of _ (by decide +kernel)) ggX4_slacks_X0_setSlack
set_option maxRecDepth 20000 in
theorem ggX4_slacks_X1_areSo : GoodIn wsX4_slacks wsX1_areSo := goodIn_r _ [22, 23, 24, 25, 26, 27, 28, 29, 30, 6, 31, 13, 32, 33, 34, 35, 36, 37, 38, 39, 40, 41, 42, 43, 44, 45, 46, 47, 48, 49, 50, 51, 8, 52, 53, 54, 55, 56, 57, 58, 59, 75, 76, 77, 78, 79, 70, 71, 72, 73, 74] (by decide +kernel) (by decide +kernel)
set_option maxRecDepth 20000 in
theorem gX4_slacks_X1_areSo : GoodIn wsX4_slacks (wsV RX4 188 RX1 yX1_areSo wsX1_areSo) := goodIn_app (goodIn_of _ (by decide +kernel)) ggX4_slacks_X1_areSo
set_option maxRecDepth 20000 in
theorem ggX4_slacks_X4_bitIf : GoodIn wsX4_slacks wsX4_bitIf := goodIn_r _ [63] (by decide +kernel) (by decide +kernel)
set_option maxRecDepth 20000 in
theorem gX4_slacks_X4_bitIf : GoodIn wsX4_slacks (va_wsS RX4 192 yX4_bitIf wsX4_bitIf) := goodIn_app (goodIn_of _ (by decide +kernel)) ggX4_slacks_X4_bitIf
theorem dX4_slacks_0 : decode cX4_slacks 0 = .ok (.aload_n 0, 1) := by decide +kernel
theorem dX4_slacks_1 : decode cX4_slacks 1 = .ok (.getfield 20, 3) := by decide +kernel
theorem dX4_slacks_4 : decode cX4_slacks 4 = .ok (.invokevirtual 96, 3) := by decide +kernel
theorem dX4_slacks_7 : decode cX4_slacks 7 = .ok (.ifCond .ne 6, 3) := by decide +kernel
theorem dX4_slacks_10 : decode cX4_slacks 10 = .ok (.bipush (-3), 2) := by decide +kernel
theorem dX4_slacks_12 : decode cX4_slacks 12 = .ok (.ireturn, 1) := by decide +kernel
theorem dX4_slacks_13 : decode cX4_slacks 13 = .ok (.aload_n 0, 1) := by decide +kernel
theorem dX4_slacks_14 : decode cX4_slacks 14 = .ok (.getfield 20, 3) := by decide +kernel
theorem dX4_slacks_17 : decode cX4_slacks 17 = .ok (.invokevirtual 100, 3) := by decide +kernel
theorem dX4_slacks_20 : decode cX4_slacks 20 = .ok (.istore_n 1, 1) := by decide +kernel
theorem dX4_slacks_21 : decode cX4_slacks 21 = .ok (.iconst 0, 1) := by decide +kernel
theorem dX4_slacks_22 : decode cX4_slacks 22 = .ok (.istore_n 2, 1) := by decide +kernel
theorem dX4_slacks_23 : decode cX4_slacks 23 = .ok (.iconst 0, 1) := by decide +kernel
theorem dX4_slacks_24 : decode cX4_slacks 24 = .ok (.istore_n 3, 1) := by decide +kernel
theorem dX4_slacks_25 : decode cX4_slacks 25 = .ok (.iload_n 3, 1) := by decide +kernel
theorem dX4_slacks_26 : decode cX4_slacks 26 = .ok (.bipush 9, 2) := by decide +kernel
theorem dX4_slacks_28 : decode cX4_slacks 28 = .ok (.if_icmp .gt 35, 3) := by decide +kernel
theorem dX4_slacks_31 : decode cX4_slacks 31 = .ok (.aload_n 0, 1) := by decide +kernel
theorem dX4_slacks_32 : decode cX4_slacks 32 = .ok (.getfield 20, 3) := by decide +kernel
theorem dX4_slacks_35 : decode cX4_slacks 35 = .ok (.iload_n 3, 1) := by decide +kernel
theorem dX4_slacks_36 : decode cX4_slacks 36 = .ok (.invokevirtual 103, 3) := by decide +kernel
theorem dX4_slacks_39 : decode cX4_slacks 39 = .ok (.iload_n 2, 1) := by decide +kernel
theorem dX4_slacks_40 : decode cX4_slacks 40 = .ok (.aload_n 0, 1) := by decide +kernel
theorem dX4_slacks_41 : decode cX4_slacks 41 = .ok (.getfield 34, 3) := by decide +kernel
theorem dX4_slacks_44 : decode cX4_slacks 44 = .ok (.aload_n 0, 1) := by decide +kernel
theorem dX4_slacks_45 : decode cX4_slacks 45 = .ok (.getfield 20, 3) := by decide +kernel
theorem dX4_slacks_48 : decode cX4_slacks 48 = .ok (.invokevirtual 188, 3) := by decide +kernel
theorem dX4_slacks_51 : decode cX4_slacks 51 = .ok (.iload_n 3, 1) := by decide +kernel
theorem dX4_slacks_52 : decode cX4_slacks 52 = .ok (.invokestatic 192, 3) := by decide +kernel
theorem dX4_slacks_55 : decode cX4_slacks 55 = .ok (.ior, 1) := by decide +kernel
theorem dX4_slacks_56 : decode cX4_slacks 56 = .ok (.istore_n 2, 1) := by decide +kernel
theorem dX4_slacks_57 : decode cX4_slacks 57 = .ok (.iinc 3 1, 3) := by decide +kernel
theorem dX4_slacks_60 : decode cX4_slacks 60 = .ok (.goto (-35), 3) := by decide +kernel
theorem dX4_slacks_63 : decode cX4_slacks 63 = .ok (.aload_n 0, 1) := by decide +kernel
theorem dX4_slacks_64 : decode cX4_slacks 64 = .ok (.getfield 20, 3) := by decide +kernel
theorem dX4_slacks_67 : decode cX4_slacks 67 = .ok (.iload_n 1, 1) := by decide +kernel
theorem dX4_slacks_68 : decode cX4_slacks 68 = .ok (.invokevirtual 103, 3) := by decide +kernel
theorem dX4_slacks_71 : decode cX4_slacks 71 = .ok (.iload_n 2, 1) := by decide +kernel
theorem dX4_slacks_72 : decode cX4_slacks 72 = .ok (.ireturn, 1) := by decide +kernel
set_option maxRecDepth 20000 in
theorem ggX4_odds_X0_hasPass : GoodIn wsX4_odds wsX0_hasPass := goodIn_r _ [7, 8, 61, 62, 63, 64, 65] (by decide +kernel) (by decide +kernel)
set_option maxRecDepth 20000 in
theorem gX4_odds_X0_hasPass : GoodIn wsX4_odds (wsV RX4 74 RX0 yX0_hasPass wsX0_hasPass) := goodIn_app (goodIn_of _ (by decide +kernel)) ggX4_odds_X0_hasPass
set_option maxRecDepth 20000 in
theorem ggX4_odds_X4_isMonths : GoodIn wsX4_odds wsX4_isMonths := goodIn_r _ [12, 13, 14, 11, 15] (by decide +kernel) (by decide +kernel)
set_option maxRecDepth 20000 in
theorem gX4_odds_X4_isMonths : GoodIn wsX4_odds (va_wsS RX4 106 yX4_isMonths wsX4_isMonths) := goodIn_app (goodIn_of _ (by decide +kernel)) ggX4_odds_X4_isMonths
set_option maxRecDepth 20000 in
theorem ggX4_odds_X4_within : GoodIn wsX4_odds wsX4_within := goodIn_r _ [15] (by decide +kernel) (by decide +kernel)
set_option maxRecDepth 20000 in
theorem gX4_odds_X4_within : GoodIn wsX4_odds (va_wsS RX4 77 yX4_within wsX4_within) := goodIn_app (goodIn_of _ (by decide +kernel)) ggX4_odds_X4_within
set_option maxRecDepth 20000 in
theorem ggX4_odds_X0_fitting : GoodIn wsX4_odds wsX0_fitting := goodIn_r _ [19, 8, 20, 21, 22, 23, 6, 24, 25, 26, 27, 28, 29, 30, 31, 32, 33, 34, 35, 36, 37, 4, 5, 7, 38, 39, 40, 41, 42, 43, 44, 45, 46, 11, 47, 61, 62, 63, 64, 65] (by decide +kernel) (by decide +kernel)
set_option maxRecDepth 20000 in
theorem gX4_odds_X0_fitting : GoodIn wsX4_odds (wsV RX4 116 RX0 yX0_fitting wsX0_fitting) := goodIn_app (goodIn_of _ (by decide +kernel)) ggX4_odds_X0_fitting
set_option maxRecDepth 20000 in
theorem ggX4_odds_J6_bitCount_0f7a4 : GoodIn wsX4_odds wsJ6_bitCount_0f7a4 := goodIn_r _ [51, 52, 53, 54] (by decide +kernel) (by decide +kernel)
set_option maxRecDepth 20000 in
theorem gX4_odds_J6_bitCount_0f7a4 : GoodIn wsX4_odds (va_wsS RX4 167 yJ6_bitCount_0f7a4 wsJ6_bitCount_0f7a4) := goodIn_app (goodIn_of _ (by decide +kernel)) ggX4_odds_J6_bitCount_0f7a4
theorem dX4_odds_0 : decode cX4_odds 0 = .ok (.aload_n 0, 1) := by decide +kernel
theorem dX4_odds_1 : decode cX4_odds 1 = .ok (.getfield 20, 3) := by decide +kernel
theorem dX4_odds_4 : decode cX4_odds 4 = .ok (.iload_n 1, 1) := by decide +kernel
theorem dX4_odds_5 : decode cX4_odds 5 = .ok (.invokevirtual 74, 3) := by decide +kernel
theorem dX4_odds_8 : decode cX4_odds 8 = .ok (.ifCond .eq 19, 3) := by decide +kernel
theorem dX4_odds_11 : decode cX4_odds 11 = .ok (.iload_n 2, 1) := by decide +kernel
theorem dX4_odds_12 : decode cX4_odds 12 = .ok (.invokestatic 106, 3) := by decide +kernel
theorem dX4_odds_15 : decode cX4_odds 15 = .ok (.ifCond .eq 12, 3) := by decide +kernel
theorem dX4_odds_18 : decode cX4_odds 18 = .ok (.iload_n 3, 1) := by decide +kernel
theorem dX4_odds_19 : decode cX4_odds 19 = .ok (.iconst 0, 1) := by decide +kernel
theorem dX4_odds_20 : decode cX4_odds 20 = .ok (.iconst 1, 1) := by decide +kernel
theorem dX4_odds_21 : decode cX4_odds 21 = .ok (.invokestatic 77, 3) := by decide +kernel
theorem dX4_odds_24 : decode cX4_odds 24 = .ok (.ifCond .ne 7, 3) := by decide +kernel
theorem dX4_odds_27 : decode cX4_odds 27 = .ok (.ldc2_w 200, 3) := by decide +kernel
theorem dX4_odds_30 : decode cX4_odds 30 = .ok (.lreturn, 1) := by decide +kernel
theorem dX4_odds_31 : decode cX4_odds 31 = .ok (.lconst 1, 1) := by decide +kernel
theorem dX4_odds_32 : decode cX4_odds 32 = .ok (.aload_n 0, 1) := by decide +kernel
theorem dX4_odds_33 : decode cX4_odds 33 = .ok (.getfield 20, 3) := by decide +kernel
theorem dX4_odds_36 : decode cX4_odds 36 = .ok (.iload_n 1, 1) := by decide +kernel
theorem dX4_odds_37 : decode cX4_odds 37 = .ok (.iload_n 2, 1) := by decide +kernel
theorem dX4_odds_38 : decode cX4_odds 38 = .ok (.invokevirtual 116, 3) := by decide +kernel
theorem dX4_odds_41 : decode cX4_odds 41 = .ok (.invokestatic 167, 3) := by decide +kernel
theorem dX4_odds_44 : decode cX4_odds 44 = .ok (.lshl, 1) := by decide +kernel
theorem dX4_odds_45 : decode cX4_odds 45 = .ok (.lstore 4, 2) := by decide +kernel
theorem dX4_odds_47 : decode cX4_odds 47 = .ok (.iload_n 3, 1) := by decide +kernel
theorem dX4_odds_48 : decode cX4_odds 48 = .ok (.ifCond .ne 10, 3) := by decide +kernel
theorem dX4_odds_51 : decode cX4_odds 51 = .ok (.lload 4, 2) := by decide +kernel
theorem dX4_odds_53 : decode cX4_odds 53 = .ok (.lconst 1, 1) := by decide +kernel
theorem dX4_odds_54 : decode cX4_odds 54 = .ok (.lsub, 1) := by decide +kernel
theorem dX4_odds_55 : decode cX4_odds 55 = .ok (.goto 5, 3) := by decide +kernel
theorem dX4_odds_58 : decode cX4_odds 58 = .ok (.lload 4, 2) := by decide +kernel
theorem dX4_odds_60 : decode cX4_odds 60 = .ok (.lreturn, 1) := by decide +kernel
set_option maxRecDepth 20000 in
theorem ggX4_sheet_X4_isSheet : GoodIn wsX4_sheet wsX4_isSheet := goodIn_r _ [6, 7, 8, 5, 9] (by decide +kernel) (by decide +kernel)
set_option maxRecDepth 20000 in
theorem gX4_sheet_X4_isSheet : GoodIn wsX4_sheet (va_wsS RX4 46 yX4_isSheet wsX4_isSheet) := goodIn_app (goodIn_of _ (by decide +kernel)) ggX4_sheet_X4_isSheet
