set_option maxRecDepth 20000 in
theorem ggX4_sheet_X4_isLane : GoodIn wsX4_sheet wsX4_isLane := goodIn_r _ [12, 7, 8, 5, 9] (by decide +kernel) (by decide +kernel)
set_option maxRecDepth 20000 in
theorem gX4_sheet_X4_isLane : GoodIn wsX4_sheet (va_wsS RX4 50 yX4_isLane wsX4_isLane) := goodIn_app (goodIn_of _ (by decide +kernel)) ggX4_sheet_X4_isLane
set_option maxRecDepth 20000 in
theorem ggX4_sheet_X4_failBy : GoodIn wsX4_sheet wsX4_failBy := goodIn_r _ [16, 1, 29, 30, 31, 32, 33, 34] (by decide +kernel) (by decide +kernel)
set_option maxRecDepth 20000 in
theorem gX4_sheet_X4_failBy : GoodIn wsX4_sheet (wsV RX4 202 RX4 yX4_failBy wsX4_failBy) := goodIn_app (goodIn_of _ (by decide +kernel)) ggX4_sheet_X4_failBy
set_option maxRecDepth 20000 in
theorem ggX4_sheet_X2_begin : GoodIn wsX4_sheet wsX2_begin := goodIn_r _ [21, 22, 23, 24, 25, 26, 27, 28, 35, 36, 37] (by decide +kernel) (by decide +kernel)
set_option maxRecDepth 20000 in
theorem gX4_sheet_X2_begin : GoodIn wsX4_sheet (wsV RX4 205 RX2 yX2_begin wsX2_begin) := goodIn_app (goodIn_of _ (by decide +kernel)) ggX4_sheet_X2_begin
theorem dX4_sheet_0 : decode cX4_sheet 0 = .ok (.aload_n 0, 1) := by decide +kernel
theorem dX4_sheet_1 : decode cX4_sheet 1 = .ok (.iconst 0, 1) := by decide +kernel
theorem dX4_sheet_2 : decode cX4_sheet 2 = .ok (.putfield 42, 3) := by decide +kernel
theorem dX4_sheet_5 : decode cX4_sheet 5 = .ok (.iload_n 1, 1) := by decide +kernel
theorem dX4_sheet_6 : decode cX4_sheet 6 = .ok (.invokestatic 46, 3) := by decide +kernel
theorem dX4_sheet_9 : decode cX4_sheet 9 = .ok (.ifCond .ne 5, 3) := by decide +kernel
theorem dX4_sheet_12 : decode cX4_sheet 12 = .ok (.iconst (-1), 1) := by decide +kernel
theorem dX4_sheet_13 : decode cX4_sheet 13 = .ok (.ireturn, 1) := by decide +kernel
theorem dX4_sheet_14 : decode cX4_sheet 14 = .ok (.iload_n 2, 1) := by decide +kernel
theorem dX4_sheet_15 : decode cX4_sheet 15 = .ok (.invokestatic 50, 3) := by decide +kernel
theorem dX4_sheet_18 : decode cX4_sheet 18 = .ok (.ifCond .eq 9, 3) := by decide +kernel
theorem dX4_sheet_21 : decode cX4_sheet 21 = .ok (.iload_n 3, 1) := by decide +kernel
theorem dX4_sheet_22 : decode cX4_sheet 22 = .ok (.bipush 60, 2) := by decide +kernel
theorem dX4_sheet_24 : decode cX4_sheet 24 = .ok (.if_icmp .le 6, 3) := by decide +kernel
theorem dX4_sheet_27 : decode cX4_sheet 27 = .ok (.bipush (-2), 2) := by decide +kernel
theorem dX4_sheet_29 : decode cX4_sheet 29 = .ok (.ireturn, 1) := by decide +kernel
theorem dX4_sheet_30 : decode cX4_sheet 30 = .ok (.iload_n 3, 1) := by decide +kernel
theorem dX4_sheet_31 : decode cX4_sheet 31 = .ok (.ifCond .ge 9, 3) := by decide +kernel
theorem dX4_sheet_34 : decode cX4_sheet 34 = .ok (.aload_n 0, 1) := by decide +kernel
theorem dX4_sheet_35 : decode cX4_sheet 35 = .ok (.iconst 4, 1) := by decide +kernel
theorem dX4_sheet_36 : decode cX4_sheet 36 = .ok (.invokevirtual 202, 3) := by decide +kernel
theorem dX4_sheet_39 : decode cX4_sheet 39 = .ok (.ireturn, 1) := by decide +kernel
theorem dX4_sheet_40 : decode cX4_sheet 40 = .ok (.aload_n 0, 1) := by decide +kernel
theorem dX4_sheet_41 : decode cX4_sheet 41 = .ok (.getfield 13, 3) := by decide +kernel
theorem dX4_sheet_44 : decode cX4_sheet 44 = .ok (.iload_n 1, 1) := by decide +kernel
theorem dX4_sheet_45 : decode cX4_sheet 45 = .ok (.aaload, 1) := by decide +kernel
theorem dX4_sheet_46 : decode cX4_sheet 46 = .ok (.iload_n 2, 1) := by decide +kernel
theorem dX4_sheet_47 : decode cX4_sheet 47 = .ok (.iload_n 3, 1) := by decide +kernel
theorem dX4_sheet_48 : decode cX4_sheet 48 = .ok (.invokevirtual 205, 3) := by decide +kernel
theorem dX4_sheet_51 : decode cX4_sheet 51 = .ok (.iconst 1, 1) := by decide +kernel
theorem dX4_sheet_52 : decode cX4_sheet 52 = .ok (.ireturn, 1) := by decide +kernel
set_option maxRecDepth 20000 in
theorem ggX4_lose_X4_isSheet : GoodIn wsX4_lose wsX4_isSheet := goodIn_r _ [5, 6, 7, 4, 8] (by decide +kernel) (by decide +kernel)
set_option maxRecDepth 20000 in
theorem gX4_lose_X4_isSheet : GoodIn wsX4_lose (va_wsS RX4 46 yX4_isSheet wsX4_isSheet) := goodIn_app (goodIn_of _ (by decide +kernel)) ggX4_lose_X4_isSheet
set_option maxRecDepth 20000 in
theorem ggX4_lose_X2_hasNothing : GoodIn wsX4_lose wsX2_hasNothing := goodIn_r _ [13, 14, 26, 27, 28] (by decide +kernel) (by decide +kernel)
set_option maxRecDepth 20000 in
theorem gX4_lose_X2_hasNothing : GoodIn wsX4_lose (wsV RX4 208 RX2 yX2_hasNothing wsX2_hasNothing) := goodIn_app (goodIn_of _ (by decide +kernel)) ggX4_lose_X2_hasNothing
set_option maxRecDepth 20000 in
theorem ggX4_lose_X2_drop : GoodIn wsX4_lose wsX2_drop := goodIn_r _ [18, 14, 19, 26, 27, 28] (by decide +kernel) (by decide +kernel)
set_option maxRecDepth 20000 in
theorem gX4_lose_X2_drop : GoodIn wsX4_lose (wsV RX4 211 RX2 yX2_drop wsX2_drop) := goodIn_app (goodIn_of _ (by decide +kernel)) ggX4_lose_X2_drop
theorem dX4_lose_0 : decode cX4_lose 0 = .ok (.iload_n 1, 1) := by decide +kernel
theorem dX4_lose_1 : decode cX4_lose 1 = .ok (.invokestatic 46, 3) := by decide +kernel
theorem dX4_lose_4 : decode cX4_lose 4 = .ok (.ifCond .ne 5, 3) := by decide +kernel
theorem dX4_lose_7 : decode cX4_lose 7 = .ok (.iconst (-1), 1) := by decide +kernel
theorem dX4_lose_8 : decode cX4_lose 8 = .ok (.ireturn, 1) := by decide +kernel
theorem dX4_lose_9 : decode cX4_lose 9 = .ok (.aload_n 0, 1) := by decide +kernel
theorem dX4_lose_10 : decode cX4_lose 10 = .ok (.getfield 13, 3) := by decide +kernel
theorem dX4_lose_13 : decode cX4_lose 13 = .ok (.iload_n 1, 1) := by decide +kernel
theorem dX4_lose_14 : decode cX4_lose 14 = .ok (.aaload, 1) := by decide +kernel
theorem dX4_lose_15 : decode cX4_lose 15 = .ok (.invokevirtual 208, 3) := by decide +kernel
theorem dX4_lose_18 : decode cX4_lose 18 = .ok (.ifCond .eq 5, 3) := by decide +kernel
theorem dX4_lose_21 : decode cX4_lose 21 = .ok (.iconst 0, 1) := by decide +kernel
theorem dX4_lose_22 : decode cX4_lose 22 = .ok (.ireturn, 1) := by decide +kernel
theorem dX4_lose_23 : decode cX4_lose 23 = .ok (.aload_n 0, 1) := by decide +kernel
theorem dX4_lose_24 : decode cX4_lose 24 = .ok (.getfield 13, 3) := by decide +kernel
theorem dX4_lose_27 : decode cX4_lose 27 = .ok (.iload_n 1, 1) := by decide +kernel
theorem dX4_lose_28 : decode cX4_lose 28 = .ok (.aaload, 1) := by decide +kernel
theorem dX4_lose_29 : decode cX4_lose 29 = .ok (.invokevirtual 211, 3) := by decide +kernel
theorem dX4_lose_32 : decode cX4_lose 32 = .ok (.iconst 1, 1) := by decide +kernel
theorem dX4_lose_33 : decode cX4_lose 33 = .ok (.ireturn, 1) := by decide +kernel
set_option maxRecDepth 20000 in
theorem ggX4_put_X4_isSheet : GoodIn wsX4_put wsX4_isSheet := goodIn_r _ [6, 7, 8, 5, 9] (by decide +kernel) (by decide +kernel)
set_option maxRecDepth 20000 in
theorem gX4_put_X4_isSheet : GoodIn wsX4_put (va_wsS RX4 46 yX4_isSheet wsX4_isSheet) := goodIn_app (goodIn_of _ (by decide +kernel)) ggX4_put_X4_isSheet
set_option maxRecDepth 20000 in
theorem ggX4_put_X2_hasNothing : GoodIn wsX4_put wsX2_hasNothing := goodIn_r _ [14, 15, 41, 42, 43] (by decide +kernel) (by decide +kernel)
set_option maxRecDepth 20000 in
theorem gX4_put_X2_hasNothing : GoodIn wsX4_put (wsV RX4 208 RX2 yX2_hasNothing wsX2_hasNothing) := goodIn_app (goodIn_of _ (by decide +kernel)) ggX4_put_X2_hasNothing
set_option maxRecDepth 20000 in
theorem ggX4_put_X4_failBy : GoodIn wsX4_put wsX4_failBy := goodIn_r _ [19, 1, 35, 36, 37, 38, 39, 40] (by decide +kernel) (by decide +kernel)
set_option maxRecDepth 20000 in
theorem gX4_put_X4_failBy : GoodIn wsX4_put (wsV RX4 202 RX4 yX4_failBy wsX4_failBy) := goodIn_app (goodIn_of _ (by decide +kernel)) ggX4_put_X4_failBy
set_option maxRecDepth 20000 in
theorem ggX4_put_X2_hasCell : GoodIn wsX4_put wsX2_hasCell := goodIn_r _ [23, 24, 41, 42, 43] (by decide +kernel) (by decide +kernel)
set_option maxRecDepth 20000 in
theorem gX4_put_X2_hasCell : GoodIn wsX4_put (wsV RX4 214 RX2 yX2_hasCell wsX2_hasCell) := goodIn_app (goodIn_of _ (by decide +kernel)) ggX4_put_X2_hasCell
set_option maxRecDepth 20000 in
theorem ggX4_put_X2_write : GoodIn wsX4_put wsX2_write := goodIn_r _ [28, 29, 30, 21, 22, 13, 23, 24, 31, 32, 33, 34, 15, 41, 42, 43] (by decide +kernel) (by decide +kernel)
set_option maxRecDepth 20000 in
theorem gX4_put_X2_write : GoodIn wsX4_put (wsV RX4 217 RX2 yX2_write wsX2_write) := goodIn_app (goodIn_of _ (by decide +kernel)) ggX4_put_X2_write
theorem dX4_put_0 : decode cX4_put 0 = .ok (.aload_n 0, 1) := by decide +kernel
theorem dX4_put_1 : decode cX4_put 1 = .ok (.iconst 0, 1) := by decide +kernel
theorem dX4_put_2 : decode cX4_put 2 = .ok (.putfield 42, 3) := by decide +kernel
theorem dX4_put_5 : decode cX4_put 5 = .ok (.iload_n 1, 1) := by decide +kernel
theorem dX4_put_6 : decode cX4_put 6 = .ok (.invokestatic 46, 3) := by decide +kernel
theorem dX4_put_9 : decode cX4_put 9 = .ok (.ifCond .ne 5, 3) := by decide +kernel
theorem dX4_put_12 : decode cX4_put 12 = .ok (.iconst (-1), 1) := by decide +kernel
theorem dX4_put_13 : decode cX4_put 13 = .ok (.ireturn, 1) := by decide +kernel
theorem dX4_put_14 : decode cX4_put 14 = .ok (.aload_n 0, 1) := by decide +kernel
theorem dX4_put_15 : decode cX4_put 15 = .ok (.getfield 13, 3) := by decide +kernel
theorem dX4_put_18 : decode cX4_put 18 = .ok (.iload_n 1, 1) := by decide +kernel
theorem dX4_put_19 : decode cX4_put 19 = .ok (.aaload, 1) := by decide +kernel
theorem dX4_put_20 : decode cX4_put 20 = .ok (.invokevirtual 208, 3) := by decide +kernel
theorem dX4_put_23 : decode cX4_put 23 = .ok (.ifCond .eq 9, 3) := by decide +kernel
theorem dX4_put_26 : decode cX4_put 26 = .ok (.aload_n 0, 1) := by decide +kernel
theorem dX4_put_27 : decode cX4_put 27 = .ok (.iconst 1, 1) := by decide +kernel
theorem dX4_put_28 : decode cX4_put 28 = .ok (.invokevirtual 202, 3) := by decide +kernel
theorem dX4_put_31 : decode cX4_put 31 = .ok (.ireturn, 1) := by decide +kernel
theorem dX4_put_32 : decode cX4_put 32 = .ok (.aload_n 0, 1) := by decide +kernel
theorem dX4_put_33 : decode cX4_put 33 = .ok (.getfield 13, 3) := by decide +kernel
theorem dX4_put_36 : decode cX4_put 36 = .ok (.iload_n 1, 1) := by decide +kernel
theorem dX4_put_37 : decode cX4_put 37 = .ok (.aaload, 1) := by decide +kernel
theorem dX4_put_38 : decode cX4_put 38 = .ok (.iload_n 2, 1) := by decide +kernel
theorem dX4_put_39 : decode cX4_put 39 = .ok (.invokevirtual 214, 3) := by decide +kernel
theorem dX4_put_42 : decode cX4_put 42 = .ok (.ifCond .ne 9, 3) := by decide +kernel
theorem dX4_put_45 : decode cX4_put 45 = .ok (.aload_n 0, 1) := by decide +kernel
theorem dX4_put_46 : decode cX4_put 46 = .ok (.iconst 3, 1) := by decide +kernel
theorem dX4_put_47 : decode cX4_put 47 = .ok (.invokevirtual 202, 3) := by decide +kernel
theorem dX4_put_50 : decode cX4_put 50 = .ok (.ireturn, 1) := by decide +kernel
theorem dX4_put_51 : decode cX4_put 51 = .ok (.aload_n 0, 1) := by decide +kernel
theorem dX4_put_52 : decode cX4_put 52 = .ok (.getfield 13, 3) := by decide +kernel
theorem dX4_put_55 : decode cX4_put 55 = .ok (.iload_n 1, 1) := by decide +kernel
theorem dX4_put_56 : decode cX4_put 56 = .ok (.aaload, 1) := by decide +kernel
theorem dX4_put_57 : decode cX4_put 57 = .ok (.iload_n 2, 1) := by decide +kernel
theorem dX4_put_58 : decode cX4_put 58 = .ok (.iload_n 3, 1) := by decide +kernel
theorem dX4_put_59 : decode cX4_put 59 = .ok (.invokevirtual 217, 3) := by decide +kernel
theorem dX4_put_62 : decode cX4_put 62 = .ok (.iconst 1, 1) := by decide +kernel
theorem dX4_put_63 : decode cX4_put 63 = .ok (.ireturn, 1) := by decide +kernel
set_option maxRecDepth 20000 in
theorem ggX4_cell_X4_isSheet : GoodIn wsX4_cell wsX4_isSheet := goodIn_r _ [7, 8, 9, 6, 10] (by decide +kernel) (by decide +kernel)
set_option maxRecDepth 20000 in
theorem gX4_cell_X4_isSheet : GoodIn wsX4_cell (va_wsS RX4 46 yX4_isSheet wsX4_isSheet) := goodIn_app (goodIn_of _ (by decide +kernel)) ggX4_cell_X4_isSheet
set_option maxRecDepth 20000 in
theorem ggX4_cell_X4_isLane : GoodIn wsX4_cell wsX4_isLane := goodIn_r _ [13, 8, 9, 6, 10] (by decide +kernel) (by decide +kernel)
set_option maxRecDepth 20000 in
theorem gX4_cell_X4_isLane : GoodIn wsX4_cell (va_wsS RX4 50 yX4_isLane wsX4_isLane) := goodIn_app (goodIn_of _ (by decide +kernel)) ggX4_cell_X4_isLane
set_option maxRecDepth 20000 in
theorem ggX4_cell_X4_faultOfRow : GoodIn wsX4_cell wsX4_faultOfRow := goodIn_r _ [16, 17, 18, 19, 20, 21, 22, 23, 24, 25, 26, 44, 45, 46] (by decide +kernel) (by decide +kernel)
set_option maxRecDepth 20000 in
theorem gX4_cell_X4_faultOfRow : GoodIn wsX4_cell (va_wsS RX4 220 yX4_faultOfRow wsX4_faultOfRow) := goodIn_app (goodIn_of _ (by decide +kernel)) ggX4_cell_X4_faultOfRow
set_option maxRecDepth 20000 in
theorem ggX4_cell_X2_hasCell : GoodIn wsX4_cell wsX2_hasCell := goodIn_r _ [30, 31, 44, 45, 46] (by decide +kernel) (by decide +kernel)
set_option maxRecDepth 20000 in
theorem gX4_cell_X2_hasCell : GoodIn wsX4_cell (wsV RX4 214 RX2 yX2_hasCell wsX2_hasCell) := goodIn_app (goodIn_of _ (by decide +kernel)) ggX4_cell_X2_hasCell
set_option maxRecDepth 20000 in
theorem ggX4_cell_X2_at : GoodIn wsX4_cell wsX2_at := goodIn_r _ [35, 36, 37, 28, 29, 20, 30, 31, 44, 45, 46] (by decide +kernel) (by decide +kernel)
set_option maxRecDepth 20000 in
theorem gX4_cell_X2_at : GoodIn wsX4_cell (wsV RX4 224 RX2 yX2_at wsX2_at) := goodIn_app (goodIn_of _ (by decide +kernel)) ggX4_cell_X2_at
theorem dX4_cell_0 : decode cX4_cell 0 = .ok (.aload_n 0, 1) := by decide +kernel
theorem dX4_cell_1 : decode cX4_cell 1 = .ok (.iconst 0, 1) := by decide +kernel
theorem dX4_cell_2 : decode cX4_cell 2 = .ok (.putfield 42, 3) := by decide +kernel
theorem dX4_cell_5 : decode cX4_cell 5 = .ok (.iload_n 1, 1) := by decide +kernel
theorem dX4_cell_6 : decode cX4_cell 6 = .ok (.invokestatic 46, 3) := by decide +kernel
theorem dX4_cell_9 : decode cX4_cell 9 = .ok (.ifCond .eq 10, 3) := by decide +kernel
theorem dX4_cell_12 : decode cX4_cell 12 = .ok (.iload_n 3, 1) := by decide +kernel
theorem dX4_cell_13 : decode cX4_cell 13 = .ok (.invokestatic 50, 3) := by decide +kernel
theorem dX4_cell_16 : decode cX4_cell 16 = .ok (.ifCond .ne 7, 3) := by decide +kernel
theorem dX4_cell_19 : decode cX4_cell 19 = .ok (.ldc2_w 200, 3) := by decide +kernel
theorem dX4_cell_22 : decode cX4_cell 22 = .ok (.lreturn, 1) := by decide +kernel
theorem dX4_cell_23 : decode cX4_cell 23 = .ok (.aload_n 0, 1) := by decide +kernel
theorem dX4_cell_24 : decode cX4_cell 24 = .ok (.aload_n 0, 1) := by decide +kernel
theorem dX4_cell_25 : decode cX4_cell 25 = .ok (.getfield 13, 3) := by decide +kernel
theorem dX4_cell_28 : decode cX4_cell 28 = .ok (.iload_n 1, 1) := by decide +kernel
theorem dX4_cell_29 : decode cX4_cell 29 = .ok (.aaload, 1) := by decide +kernel
theorem dX4_cell_30 : decode cX4_cell 30 = .ok (.iload_n 3, 1) := by decide +kernel
theorem dX4_cell_31 : decode cX4_cell 31 = .ok (.invokestatic 220, 3) := by decide +kernel
theorem dX4_cell_34 : decode cX4_cell 34 = .ok (.putfield 42, 3) := by decide +kernel
theorem dX4_cell_37 : decode cX4_cell 37 = .ok (.aload_n 0, 1) := by decide +kernel
theorem dX4_cell_38 : decode cX4_cell 38 = .ok (.getfield 42, 3) := by decide +kernel
theorem dX4_cell_41 : decode cX4_cell 41 = .ok (.ifCond .ne 21, 3) := by decide +kernel
theorem dX4_cell_44 : decode cX4_cell 44 = .ok (.aload_n 0, 1) := by decide +kernel
theorem dX4_cell_45 : decode cX4_cell 45 = .ok (.getfield 13, 3) := by decide +kernel
theorem dX4_cell_48 : decode cX4_cell 48 = .ok (.iload_n 1, 1) := by decide +kernel
theorem dX4_cell_49 : decode cX4_cell 49 = .ok (.aaload, 1) := by decide +kernel
theorem dX4_cell_50 : decode cX4_cell 50 = .ok (.iload_n 2, 1) := by decide +kernel
theorem dX4_cell_51 : decode cX4_cell 51 = .ok (.invokevirtual 214, 3) := by decide +kernel
theorem dX4_cell_54 : decode cX4_cell 54 = .ok (.ifCond .ne 8, 3) := by decide +kernel
theorem dX4_cell_57 : decode cX4_cell 57 = .ok (.aload_n 0, 1) := by decide +kernel
theorem dX4_cell_58 : decode cX4_cell 58 = .ok (.iconst 3, 1) := by decide +kernel
theorem dX4_cell_59 : decode cX4_cell 59 = .ok (.putfield 42, 3) := by decide +kernel
theorem dX4_cell_62 : decode cX4_cell 62 = .ok (.aload_n 0, 1) := by decide +kernel
theorem dX4_cell_63 : decode cX4_cell 63 = .ok (.getfield 42, 3) := by decide +kernel
theorem dX4_cell_66 : decode cX4_cell 66 = .ok (.ifCond .ne 17, 3) := by decide +kernel
theorem dX4_cell_69 : decode cX4_cell 69 = .ok (.aload_n 0, 1) := by decide +kernel
theorem dX4_cell_70 : decode cX4_cell 70 = .ok (.getfield 13, 3) := by decide +kernel
theorem dX4_cell_73 : decode cX4_cell 73 = .ok (.iload_n 1, 1) := by decide +kernel
theorem dX4_cell_74 : decode cX4_cell 74 = .ok (.aaload, 1) := by decide +kernel
theorem dX4_cell_75 : decode cX4_cell 75 = .ok (.iload_n 2, 1) := by decide +kernel
theorem dX4_cell_76 : decode cX4_cell 76 = .ok (.invokevirtual 224, 3) := by decide +kernel
theorem dX4_cell_79 : decode cX4_cell 79 = .ok (.i2l, 1) := by decide +kernel
theorem dX4_cell_80 : decode cX4_cell 80 = .ok (.goto 6, 3) := by decide +kernel
theorem dX4_cell_83 : decode cX4_cell 83 = .ok (.ldc2_w 200, 3) := by decide +kernel
theorem dX4_cell_86 : decode cX4_cell 86 = .ok (.lreturn, 1) := by decide +kernel
set_option maxRecDepth 20000 in
theorem ggX4_copy_X4_isSheet : GoodIn wsX4_copy wsX4_isSheet := goodIn_r _ [6, 7, 8, 5, 9] (by decide +kernel) (by decide +kernel)
set_option maxRecDepth 20000 in
theorem gX4_copy_X4_isSheet : GoodIn wsX4_copy (va_wsS RX4 46 yX4_isSheet wsX4_isSheet) := goodIn_app (goodIn_of _ (by decide +kernel)) ggX4_copy_X4_isSheet
set_option maxRecDepth 20000 in
theorem ggX4_copy_X2_hasNothing : GoodIn wsX4_copy wsX2_hasNothing := goodIn_r _ [14, 15, 49, 50, 51] (by decide +kernel) (by decide +kernel)
set_option maxRecDepth 20000 in
theorem gX4_copy_X2_hasNothing : GoodIn wsX4_copy (wsV RX4 208 RX2 yX2_hasNothing wsX2_hasNothing) := goodIn_app (goodIn_of _ (by decide +kernel)) ggX4_copy_X2_hasNothing
set_option maxRecDepth 20000 in
theorem ggX4_copy_X4_failBy : GoodIn wsX4_copy wsX4_failBy := goodIn_r _ [19, 1, 43, 44, 45, 46, 47, 48] (by decide +kernel) (by decide +kernel)
set_option maxRecDepth 20000 in
theorem gX4_copy_X4_failBy : GoodIn wsX4_copy (wsV RX4 202 RX4 yX4_failBy wsX4_failBy) := goodIn_app (goodIn_of _ (by decide +kernel)) ggX4_copy_X4_failBy
set_option maxRecDepth 20000 in
theorem ggX4_copy_X2_laneNow : GoodIn wsX4_copy wsX2_laneNow := goodIn_r _ [23, 15, 49, 50, 51] (by decide +kernel) (by decide +kernel)
set_option maxRecDepth 20000 in
theorem gX4_copy_X2_laneNow : GoodIn wsX4_copy (wsV RX4 227 RX2 yX2_laneNow wsX2_laneNow) := goodIn_app (goodIn_of _ (by decide +kernel)) ggX4_copy_X2_laneNow
set_option maxRecDepth 20000 in
theorem ggX4_copy_X2_isOfAnother : GoodIn wsX4_copy wsX2_isOfAnother := goodIn_r _ [27, 15, 49, 50, 51] (by decide +kernel) (by decide +kernel)
set_option maxRecDepth 20000 in
theorem gX4_copy_X2_isOfAnother : GoodIn wsX4_copy (wsV RX4 230 RX2 yX2_isOfAnother wsX2_isOfAnother) := goodIn_app (goodIn_of _ (by decide +kernel)) ggX4_copy_X2_isOfAnother
set_option maxRecDepth 20000 in
theorem ggX4_copy_X2_hasCells : GoodIn wsX4_copy wsX2_hasCells := goodIn_r _ [31, 32, 49, 50, 51] (by decide +kernel) (by decide +kernel)
set_option maxRecDepth 20000 in
theorem gX4_copy_X2_hasCells : GoodIn wsX4_copy (wsV RX4 233 RX2 yX2_hasCells wsX2_hasCells) := goodIn_app (goodIn_of _ (by decide +kernel)) ggX4_copy_X2_hasCells
set_option maxRecDepth 20000 in
theorem ggX4_copy_X2_takeCells : GoodIn wsX4_copy wsX2_takeCells := goodIn_r _ [36, 37, 38, 39, 40, 41, 42, 29, 30, 13, 31, 32, 49, 50, 51] (by decide +kernel) (by decide +kernel)
set_option maxRecDepth 20000 in
theorem gX4_copy_X2_takeCells : GoodIn wsX4_copy (wsV RX4 237 RX2 yX2_takeCells wsX2_takeCells) := goodIn_app (goodIn_of _ (by decide +kernel)) ggX4_copy_X2_takeCells
theorem dX4_copy_0 : decode cX4_copy 0 = .ok (.aload_n 0, 1) := by decide +kernel
theorem dX4_copy_1 : decode cX4_copy 1 = .ok (.iconst 0, 1) := by decide +kernel
theorem dX4_copy_2 : decode cX4_copy 2 = .ok (.putfield 42, 3) := by decide +kernel
theorem dX4_copy_5 : decode cX4_copy 5 = .ok (.iload_n 1, 1) := by decide +kernel
theorem dX4_copy_6 : decode cX4_copy 6 = .ok (.invokestatic 46, 3) := by decide +kernel
theorem dX4_copy_9 : decode cX4_copy 9 = .ok (.ifCond .eq 10, 3) := by decide +kernel
theorem dX4_copy_12 : decode cX4_copy 12 = .ok (.iload_n 3, 1) := by decide +kernel
theorem dX4_copy_13 : decode cX4_copy 13 = .ok (.invokestatic 46, 3) := by decide +kernel
theorem dX4_copy_16 : decode cX4_copy 16 = .ok (.ifCond .ne 5, 3) := by decide +kernel
theorem dX4_copy_19 : decode cX4_copy 19 = .ok (.iconst (-1), 1) := by decide +kernel
theorem dX4_copy_20 : decode cX4_copy 20 = .ok (.ireturn, 1) := by decide +kernel
theorem dX4_copy_21 : decode cX4_copy 21 = .ok (.aload_n 0, 1) := by decide +kernel
theorem dX4_copy_22 : decode cX4_copy 22 = .ok (.getfield 13, 3) := by decide +kernel
theorem dX4_copy_25 : decode cX4_copy 25 = .ok (.iload_n 1, 1) := by decide +kernel
theorem dX4_copy_26 : decode cX4_copy 26 = .ok (.aaload, 1) := by decide +kernel
theorem dX4_copy_27 : decode cX4_copy 27 = .ok (.astore 6, 2) := by decide +kernel
theorem dX4_copy_29 : decode cX4_copy 29 = .ok (.aload_n 0, 1) := by decide +kernel
theorem dX4_copy_30 : decode cX4_copy 30 = .ok (.getfield 13, 3) := by decide +kernel
theorem dX4_copy_33 : decode cX4_copy 33 = .ok (.iload_n 3, 1) := by decide +kernel
theorem dX4_copy_34 : decode cX4_copy 34 = .ok (.aaload, 1) := by decide +kernel
theorem dX4_copy_35 : decode cX4_copy 35 = .ok (.astore 7, 2) := by decide +kernel
theorem dX4_copy_37 : decode cX4_copy 37 = .ok (.aload 6, 2) := by decide +kernel
theorem dX4_copy_39 : decode cX4_copy 39 = .ok (.invokevirtual 208, 3) := by decide +kernel
theorem dX4_copy_42 : decode cX4_copy 42 = .ok (.ifCond .ne 11, 3) := by decide +kernel
theorem dX4_copy_45 : decode cX4_copy 45 = .ok (.aload 7, 2) := by decide +kernel
theorem dX4_copy_47 : decode cX4_copy 47 = .ok (.invokevirtual 208, 3) := by decide +kernel
theorem dX4_copy_50 : decode cX4_copy 50 = .ok (.ifCond .eq 9, 3) := by decide +kernel
theorem dX4_copy_53 : decode cX4_copy 53 = .ok (.aload_n 0, 1) := by decide +kernel
theorem dX4_copy_54 : decode cX4_copy 54 = .ok (.iconst 1, 1) := by decide +kernel
theorem dX4_copy_55 : decode cX4_copy 55 = .ok (.invokevirtual 202, 3) := by decide +kernel
theorem dX4_copy_58 : decode cX4_copy 58 = .ok (.ireturn, 1) := by decide +kernel
theorem dX4_copy_59 : decode cX4_copy 59 = .ok (.aload 7, 2) := by decide +kernel
theorem dX4_copy_61 : decode cX4_copy 61 = .ok (.aload 6, 2) := by decide +kernel
theorem dX4_copy_63 : decode cX4_copy 63 = .ok (.invokevirtual 227, 3) := by decide +kernel
theorem dX4_copy_66 : decode cX4_copy 66 = .ok (.invokevirtual 230, 3) := by decide +kernel
theorem dX4_copy_69 : decode cX4_copy 69 = .ok (.ifCond .eq 9, 3) := by decide +kernel
theorem dX4_copy_72 : decode cX4_copy 72 = .ok (.aload_n 0, 1) := by decide +kernel
theorem dX4_copy_73 : decode cX4_copy 73 = .ok (.iconst 2, 1) := by decide +kernel
theorem dX4_copy_74 : decode cX4_copy 74 = .ok (.invokevirtual 202, 3) := by decide +kernel
theorem dX4_copy_77 : decode cX4_copy 77 = .ok (.ireturn, 1) := by decide +kernel
theorem dX4_copy_78 : decode cX4_copy 78 = .ok (.aload 6, 2) := by decide +kernel
theorem dX4_copy_80 : decode cX4_copy 80 = .ok (.iload_n 2, 1) := by decide +kernel
theorem dX4_copy_81 : decode cX4_copy 81 = .ok (.iload 5, 2) := by decide +kernel
theorem dX4_copy_83 : decode cX4_copy 83 = .ok (.invokevirtual 233, 3) := by decide +kernel
theorem dX4_copy_86 : decode cX4_copy 86 = .ok (.ifCond .eq 15, 3) := by decide +kernel
theorem dX4_copy_89 : decode cX4_copy 89 = .ok (.aload 7, 2) := by decide +kernel
theorem dX4_copy_91 : decode cX4_copy 91 = .ok (.iload 4, 2) := by decide +kernel
theorem dX4_copy_93 : decode cX4_copy 93 = .ok (.iload 5, 2) := by decide +kernel
theorem dX4_copy_95 : decode cX4_copy 95 = .ok (.invokevirtual 233, 3) := by decide +kernel
theorem dX4_copy_98 : decode cX4_copy 98 = .ok (.ifCond .ne 9, 3) := by decide +kernel
theorem dX4_copy_101 : decode cX4_copy 101 = .ok (.aload_n 0, 1) := by decide +kernel
theorem dX4_copy_102 : decode cX4_copy 102 = .ok (.iconst 3, 1) := by decide +kernel
theorem dX4_copy_103 : decode cX4_copy 103 = .ok (.invokevirtual 202, 3) := by decide +kernel
theorem dX4_copy_106 : decode cX4_copy 106 = .ok (.ireturn, 1) := by decide +kernel
theorem dX4_copy_107 : decode cX4_copy 107 = .ok (.aload 7, 2) := by decide +kernel
theorem dX4_copy_109 : decode cX4_copy 109 = .ok (.iload 4, 2) := by decide +kernel
theorem dX4_copy_111 : decode cX4_copy 111 = .ok (.aload 6, 2) := by decide +kernel
theorem dX4_copy_113 : decode cX4_copy 113 = .ok (.iload_n 2, 1) := by decide +kernel
theorem dX4_copy_114 : decode cX4_copy 114 = .ok (.iload 5, 2) := by decide +kernel
theorem dX4_copy_116 : decode cX4_copy 116 = .ok (.invokevirtual 237, 3) := by decide +kernel
theorem dX4_copy_119 : decode cX4_copy 119 = .ok (.iload 5, 2) := by decide +kernel
theorem dX4_copy_121 : decode cX4_copy 121 = .ok (.ireturn, 1) := by decide +kernel
set_option maxRecDepth 20000 in
theorem ggX4_tell_X0_hasPass : GoodIn wsX4_tell wsX0_hasPass := goodIn_r _ [6, 7, 43, 44, 45, 46, 47] (by decide +kernel) (by decide +kernel)
set_option maxRecDepth 20000 in
theorem gX4_tell_X0_hasPass : GoodIn wsX4_tell (wsV RX4 74 RX0 yX0_hasPass wsX0_hasPass) := goodIn_app (goodIn_of _ (by decide +kernel)) ggX4_tell_X0_hasPass
set_option maxRecDepth 20000 in
theorem ggX4_tell_X0_kindOf : GoodIn wsX4_tell wsX0_kindOf := goodIn_r _ [11, 12, 13, 3, 4, 5, 6, 7, 43, 44, 45, 46, 47] (by decide +kernel) (by decide +kernel)
set_option maxRecDepth 20000 in
theorem gX4_tell_X0_kindOf : GoodIn wsX4_tell (wsV RX4 81 RX0 yX0_kindOf wsX0_kindOf) := goodIn_app (goodIn_of _ (by decide +kernel)) ggX4_tell_X0_kindOf
set_option maxRecDepth 20000 in
theorem ggX4_tell_X4_tellAsDrawn : GoodIn wsX4_tell wsX4_tellAsDrawn := goodIn_r _ [18, 19, 20, 21, 17, 22, 23, 24, 25, 26, 27, 28, 29, 30, 31, 1, 32, 33, 34, 5, 35, 36, 13, 3, 4, 6, 7, 37, 38, 39, 40, 41, 42, 43, 44, 45, 46, 47] (by decide +kernel) (by decide +kernel)
set_option maxRecDepth 20000 in
theorem gX4_tell_X4_tellAsDrawn : GoodIn wsX4_tell (wsV RX4 241 RX4 yX4_tellAsDrawn wsX4_tellAsDrawn) := goodIn_app (goodIn_of _ (by decide +kernel)) ggX4_tell_X4_tellAsDrawn
set_option maxRecDepth 20000 in
theorem ggX4_tell_X4_tellAsLent : GoodIn wsX4_tell wsX4_tellAsLent := goodIn_r _ [27, 19, 20, 21, 17, 22, 23, 28, 29, 30, 31, 1, 32, 33, 34, 5, 35, 36, 13, 3, 4, 6, 7, 37, 38, 39, 40, 41, 42, 43, 44, 45, 46, 47] (by decide +kernel) (by decide +kernel)
set_option maxRecDepth 20000 in
theorem gX4_tell_X4_tellAsLent : GoodIn wsX4_tell (wsV RX4 244 RX4 yX4_tellAsLent wsX4_tellAsLent) := goodIn_app (goodIn_of _ (by decide +kernel)) ggX4_tell_X4_tellAsLent
set_option maxRecDepth 20000 in
theorem ggX4_tell_X4_tellAsPass : GoodIn wsX4_tell wsX4_tellAsPass := goodIn_r _ [31, 1, 19, 20, 21, 17, 22, 23, 32, 33, 34, 5, 35, 36, 13, 3, 4, 6, 7, 37, 38, 39, 40, 41, 42, 43, 44, 45, 46, 47] (by decide +kernel) (by decide +kernel)
set_option maxRecDepth 20000 in
theorem gX4_tell_X4_tellAsPass : GoodIn wsX4_tell (wsV RX4 247 RX4 yX4_tellAsPass wsX4_tellAsPass) := goodIn_app (goodIn_of _ (by decide +kernel)) ggX4_tell_X4_tellAsPass
theorem dX4_tell_0 : decode cX4_tell 0 = .ok (.aload_n 0, 1) := by decide +kernel
theorem dX4_tell_1 : decode cX4_tell 1 = .ok (.getfield 20, 3) := by decide +kernel
theorem dX4_tell_4 : decode cX4_tell 4 = .ok (.iload_n 1, 1) := by decide +kernel
theorem dX4_tell_5 : decode cX4_tell 5 = .ok (.invokevirtual 74, 3) := by decide +kernel
theorem dX4_tell_8 : decode cX4_tell 8 = .ok (.ifCond .ne 5, 3) := by decide +kernel
theorem dX4_tell_11 : decode cX4_tell 11 = .ok (.iconst (-1), 1) := by decide +kernel
theorem dX4_tell_12 : decode cX4_tell 12 = .ok (.ireturn, 1) := by decide +kernel
theorem dX4_tell_13 : decode cX4_tell 13 = .ok (.aload_n 0, 1) := by decide +kernel
theorem dX4_tell_14 : decode cX4_tell 14 = .ok (.getfield 20, 3) := by decide +kernel
theorem dX4_tell_17 : decode cX4_tell 17 = .ok (.iload_n 1, 1) := by decide +kernel
theorem dX4_tell_18 : decode cX4_tell 18 = .ok (.invokevirtual 81, 3) := by decide +kernel
theorem dX4_tell_21 : decode cX4_tell 21 = .ok (.lookupswitch 39 #[(1, 33), (2, 27)], 27) := by decide +kernel
theorem dX4_tell_48 : decode cX4_tell 48 = .ok (.aload_n 0, 1) := by decide +kernel
theorem dX4_tell_49 : decode cX4_tell 49 = .ok (.iload_n 1, 1) := by decide +kernel
theorem dX4_tell_50 : decode cX4_tell 50 = .ok (.invokevirtual 241, 3) := by decide +kernel
theorem dX4_tell_53 : decode cX4_tell 53 = .ok (.ireturn, 1) := by decide +kernel
theorem dX4_tell_54 : decode cX4_tell 54 = .ok (.aload_n 0, 1) := by decide +kernel
theorem dX4_tell_55 : decode cX4_tell 55 = .ok (.iload_n 1, 1) := by decide +kernel
theorem dX4_tell_56 : decode cX4_tell 56 = .ok (.invokevirtual 244, 3) := by decide +kernel
theorem dX4_tell_59 : decode cX4_tell 59 = .ok (.ireturn, 1) := by decide +kernel
theorem dX4_tell_60 : decode cX4_tell 60 = .ok (.aload_n 0, 1) := by decide +kernel
theorem dX4_tell_61 : decode cX4_tell 61 = .ok (.iload_n 1, 1) := by decide +kernel
theorem dX4_tell_62 : decode cX4_tell 62 = .ok (.invokevirtual 247, 3) := by decide +kernel
theorem dX4_tell_65 : decode cX4_tell 65 = .ok (.ireturn, 1) := by decide +kernel
set_option maxRecDepth 20000 in
theorem ggX4_seal_X0_hasPass : GoodIn wsX4_seal wsX0_hasPass := goodIn_r _ [6, 7, 34, 35, 36, 37, 38] (by decide +kernel) (by decide +kernel)
set_option maxRecDepth 20000 in
theorem gX4_seal_X0_hasPass : GoodIn wsX4_seal (wsV RX4 74 RX0 yX0_hasPass wsX0_hasPass) := goodIn_app (goodIn_of _ (by decide +kernel)) ggX4_seal_X0_hasPass
set_option maxRecDepth 20000 in
theorem ggX4_seal_X0_kindOf : GoodIn wsX4_seal wsX0_kindOf := goodIn_r _ [11, 12, 13, 3, 4, 5, 6, 7, 34, 35, 36, 37, 38] (by decide +kernel) (by decide +kernel)
set_option maxRecDepth 20000 in
theorem gX4_seal_X0_kindOf : GoodIn wsX4_seal (wsV RX4 81 RX0 yX0_kindOf wsX0_kindOf) := goodIn_app (goodIn_of _ (by decide +kernel)) ggX4_seal_X0_kindOf
set_option maxRecDepth 20000 in
theorem ggX4_seal_X4_sealAsDrawn : GoodIn wsX4_seal wsX4_sealAsDrawn := goodIn_r _ [18, 19, 20, 21, 17, 22, 23, 28, 29, 30, 31, 32, 33] (by decide +kernel) (by decide +kernel)
set_option maxRecDepth 20000 in
theorem gX4_seal_X4_sealAsDrawn : GoodIn wsX4_seal (wsV RX4 250 RX4 yX4_sealAsDrawn wsX4_sealAsDrawn) := goodIn_app (goodIn_of _ (by decide +kernel)) ggX4_seal_X4_sealAsDrawn
set_option maxRecDepth 20000 in
theorem ggX4_seal_X4_sealAsAny : GoodIn wsX4_seal wsX4_sealAsAny := goodIn_r _ [27, 19, 20, 21, 17, 22, 23, 28, 29, 30, 31, 32, 33] (by decide +kernel) (by decide +kernel)
set_option maxRecDepth 20000 in
theorem gX4_seal_X4_sealAsAny : GoodIn wsX4_seal (wsV RX4 253 RX4 yX4_sealAsAny wsX4_sealAsAny) := goodIn_app (goodIn_of _ (by decide +kernel)) ggX4_seal_X4_sealAsAny
theorem dX4_seal_0 : decode cX4_seal 0 = .ok (.aload_n 0, 1) := by decide +kernel
theorem dX4_seal_1 : decode cX4_seal 1 = .ok (.getfield 20, 3) := by decide +kernel
theorem dX4_seal_4 : decode cX4_seal 4 = .ok (.iload_n 1, 1) := by decide +kernel
theorem dX4_seal_5 : decode cX4_seal 5 = .ok (.invokevirtual 74, 3) := by decide +kernel
theorem dX4_seal_8 : decode cX4_seal 8 = .ok (.ifCond .ne 5, 3) := by decide +kernel
theorem dX4_seal_11 : decode cX4_seal 11 = .ok (.iconst (-1), 1) := by decide +kernel
theorem dX4_seal_12 : decode cX4_seal 12 = .ok (.ireturn, 1) := by decide +kernel
theorem dX4_seal_13 : decode cX4_seal 13 = .ok (.aload_n 0, 1) := by decide +kernel
theorem dX4_seal_14 : decode cX4_seal 14 = .ok (.getfield 20, 3) := by decide +kernel
theorem dX4_seal_17 : decode cX4_seal 17 = .ok (.iload_n 1, 1) := by decide +kernel
theorem dX4_seal_18 : decode cX4_seal 18 = .ok (.invokevirtual 81, 3) := by decide +kernel
theorem dX4_seal_21 : decode cX4_seal 21 = .ok (.iconst 2, 1) := by decide +kernel
theorem dX4_seal_22 : decode cX4_seal 22 = .ok (.if_icmp .ne 10, 3) := by decide +kernel
theorem dX4_seal_25 : decode cX4_seal 25 = .ok (.aload_n 0, 1) := by decide +kernel
theorem dX4_seal_26 : decode cX4_seal 26 = .ok (.invokevirtual 250, 3) := by decide +kernel
theorem dX4_seal_29 : decode cX4_seal 29 = .ok (.goto 8, 3) := by decide +kernel
theorem dX4_seal_32 : decode cX4_seal 32 = .ok (.aload_n 0, 1) := by decide +kernel
theorem dX4_seal_33 : decode cX4_seal 33 = .ok (.iload_n 1, 1) := by decide +kernel
theorem dX4_seal_34 : decode cX4_seal 34 = .ok (.invokevirtual 253, 3) := by decide +kernel
theorem dX4_seal_37 : decode cX4_seal 37 = .ok (.ireturn, 1) := by decide +kernel
set_option maxRecDepth 20000 in
theorem ggX4_as_X0_hasPass : GoodIn wsX4_as wsX0_hasPass := goodIn_r _ [7, 8, 29, 30, 31, 32, 33] (by decide +kernel) (by decide +kernel)
set_option maxRecDepth 20000 in
theorem gX4_as_X0_hasPass : GoodIn wsX4_as (wsV RX4 74 RX0 yX0_hasPass wsX0_hasPass) := goodIn_app (goodIn_of _ (by decide +kernel)) ggX4_as_X0_hasPass
set_option maxRecDepth 20000 in
theorem ggX4_as_X4_within : GoodIn wsX4_as wsX4_within := goodIn_r _ [12] (by decide +kernel) (by decide +kernel)
set_option maxRecDepth 20000 in
theorem gX4_as_X4_within : GoodIn wsX4_as (va_wsS RX4 77 yX4_within wsX4_within) := goodIn_app (goodIn_of _ (by decide +kernel)) ggX4_as_X4_within
set_option maxRecDepth 20000 in
theorem ggX4_as_X0_kindOf : GoodIn wsX4_as wsX0_kindOf := goodIn_r _ [16, 17, 18, 4, 5, 6, 7, 8, 29, 30, 31, 32, 33] (by decide +kernel) (by decide +kernel)
set_option maxRecDepth 20000 in
theorem gX4_as_X0_kindOf : GoodIn wsX4_as (wsV RX4 81 RX0 yX0_kindOf wsX0_kindOf) := goodIn_app (goodIn_of _ (by decide +kernel)) ggX4_as_X0_kindOf
set_option maxRecDepth 20000 in
theorem ggX4_as_X4_failBy : GoodIn wsX4_as wsX4_failBy := goodIn_r _ [22, 1, 23, 24, 25, 26, 27, 28] (by decide +kernel) (by decide +kernel)
set_option maxRecDepth 20000 in
theorem gX4_as_X4_failBy : GoodIn wsX4_as (wsV RX4 202 RX4 yX4_failBy wsX4_failBy) := goodIn_app (goodIn_of _ (by decide +kernel)) ggX4_as_X4_failBy
theorem dX4_as_0 : decode cX4_as 0 = .ok (.aload_n 0, 1) := by decide +kernel
theorem dX4_as_1 : decode cX4_as 1 = .ok (.iconst 0, 1) := by decide +kernel
theorem dX4_as_2 : decode cX4_as 2 = .ok (.putfield 42, 3) := by decide +kernel
theorem dX4_as_5 : decode cX4_as 5 = .ok (.aload_n 0, 1) := by decide +kernel
theorem dX4_as_6 : decode cX4_as 6 = .ok (.getfield 20, 3) := by decide +kernel
theorem dX4_as_9 : decode cX4_as 9 = .ok (.iload_n 1, 1) := by decide +kernel
theorem dX4_as_10 : decode cX4_as 10 = .ok (.invokevirtual 74, 3) := by decide +kernel
theorem dX4_as_13 : decode cX4_as 13 = .ok (.ifCond .ne 5, 3) := by decide +kernel
theorem dX4_as_16 : decode cX4_as 16 = .ok (.iconst (-1), 1) := by decide +kernel
theorem dX4_as_17 : decode cX4_as 17 = .ok (.ireturn, 1) := by decide +kernel
theorem dX4_as_18 : decode cX4_as 18 = .ok (.iload_n 2, 1) := by decide +kernel
theorem dX4_as_19 : decode cX4_as 19 = .ok (.iconst 0, 1) := by decide +kernel
theorem dX4_as_20 : decode cX4_as 20 = .ok (.iconst 2, 1) := by decide +kernel
theorem dX4_as_21 : decode cX4_as 21 = .ok (.invokestatic 77, 3) := by decide +kernel
theorem dX4_as_24 : decode cX4_as 24 = .ok (.ifCond .ne 6, 3) := by decide +kernel
theorem dX4_as_27 : decode cX4_as 27 = .ok (.bipush (-2), 2) := by decide +kernel
theorem dX4_as_29 : decode cX4_as 29 = .ok (.ireturn, 1) := by decide +kernel
theorem dX4_as_30 : decode cX4_as 30 = .ok (.iload_n 2, 1) := by decide +kernel
theorem dX4_as_31 : decode cX4_as 31 = .ok (.aload_n 0, 1) := by decide +kernel
theorem dX4_as_32 : decode cX4_as 32 = .ok (.getfield 20, 3) := by decide +kernel
theorem dX4_as_35 : decode cX4_as 35 = .ok (.iload_n 1, 1) := by decide +kernel
theorem dX4_as_36 : decode cX4_as 36 = .ok (.invokevirtual 81, 3) := by decide +kernel
theorem dX4_as_39 : decode cX4_as 39 = .ok (.if_icmp .gt 7, 3) := by decide +kernel
theorem dX4_as_42 : decode cX4_as 42 = .ok (.iconst 1, 1) := by decide +kernel
theorem dX4_as_43 : decode cX4_as 43 = .ok (.goto 8, 3) := by decide +kernel
theorem dX4_as_46 : decode cX4_as 46 = .ok (.aload_n 0, 1) := by decide +kernel
theorem dX4_as_47 : decode cX4_as 47 = .ok (.iconst 2, 1) := by decide +kernel
theorem dX4_as_48 : decode cX4_as 48 = .ok (.invokevirtual 202, 3) := by decide +kernel
theorem dX4_as_51 : decode cX4_as 51 = .ok (.ireturn, 1) := by decide +kernel
theorem dX4_trace_0 : decode cX4_trace 0 = .ok (.aload_n 0, 1) := by decide +kernel
theorem dX4_trace_1 : decode cX4_trace 1 = .ok (.getfield 38, 3) := by decide +kernel
theorem dX4_trace_4 : decode cX4_trace 4 = .ok (.ireturn, 1) := by decide +kernel
theorem dX4_fault_0 : decode cX4_fault 0 = .ok (.aload_n 0, 1) := by decide +kernel
theorem dX4_fault_1 : decode cX4_fault 1 = .ok (.getfield 42, 3) := by decide +kernel
theorem dX4_fault_4 : decode cX4_fault 4 = .ok (.ireturn, 1) := by decide +kernel
set_option maxRecDepth 20000 in
theorem ggX4_many_X0_howMany : GoodIn wsX4_many wsX0_howMany := goodIn_r _ [7, 8, 26, 27, 28, 29, 30] (by decide +kernel) (by decide +kernel)
set_option maxRecDepth 20000 in
theorem gX4_many_X0_howMany : GoodIn wsX4_many (wsV RX4 73 RX0 yX0_howMany wsX0_howMany) := goodIn_app (goodIn_of _ (by decide +kernel)) ggX4_many_X0_howMany
set_option maxRecDepth 20000 in
theorem ggX4_many_X0_slackNow : GoodIn wsX4_many wsX0_slackNow := goodIn_r _ [12, 13, 26, 27, 28, 29, 30] (by decide +kernel) (by decide +kernel)
set_option maxRecDepth 20000 in
theorem gX4_many_X0_slackNow : GoodIn wsX4_many (wsV RX4 100 RX0 yX0_slackNow wsX0_slackNow) := goodIn_app (goodIn_of _ (by decide +kernel)) ggX4_many_X0_slackNow
set_option maxRecDepth 20000 in
theorem ggX4_many_X1_howMany : GoodIn wsX4_many wsX1_howMany := goodIn_r _ [18, 19, 31, 32, 33, 34, 35] (by decide +kernel) (by decide +kernel)
set_option maxRecDepth 20000 in
theorem gX4_many_X1_howMany : GoodIn wsX4_many (wsV RX4 65 RX1 yX1_howMany wsX1_howMany) := goodIn_app (goodIn_of _ (by decide +kernel)) ggX4_many_X1_howMany
theorem dX4_many_0 : decode cX4_many 0 = .ok (.iload_n 1, 1) := by decide +kernel
theorem dX4_many_1 : decode cX4_many 1 = .ok (.tableswitch 51 0 2 #[27, 35, 43], 27) := by decide +kernel
theorem dX4_many_28 : decode cX4_many 28 = .ok (.aload_n 0, 1) := by decide +kernel
theorem dX4_many_29 : decode cX4_many 29 = .ok (.getfield 20, 3) := by decide +kernel
theorem dX4_many_32 : decode cX4_many 32 = .ok (.invokevirtual 73, 3) := by decide +kernel
theorem dX4_many_35 : decode cX4_many 35 = .ok (.ireturn, 1) := by decide +kernel
theorem dX4_many_36 : decode cX4_many 36 = .ok (.aload_n 0, 1) := by decide +kernel
theorem dX4_many_37 : decode cX4_many 37 = .ok (.getfield 20, 3) := by decide +kernel
theorem dX4_many_40 : decode cX4_many 40 = .ok (.invokevirtual 100, 3) := by decide +kernel
theorem dX4_many_43 : decode cX4_many 43 = .ok (.ireturn, 1) := by decide +kernel
theorem dX4_many_44 : decode cX4_many 44 = .ok (.aload_n 0, 1) := by decide +kernel
theorem dX4_many_45 : decode cX4_many 45 = .ok (.getfield 34, 3) := by decide +kernel
theorem dX4_many_48 : decode cX4_many 48 = .ok (.invokevirtual 65, 3) := by decide +kernel
theorem dX4_many_51 : decode cX4_many 51 = .ok (.ireturn, 1) := by decide +kernel
theorem dX4_many_52 : decode cX4_many 52 = .ok (.bipush (-2), 2) := by decide +kernel
theorem dX4_many_54 : decode cX4_many 54 = .ok (.ireturn, 1) := by decide +kernel
set_option maxRecDepth 20000 in
theorem ggX4_tellAsPass_X4_leave : GoodIn wsX4_tellAsPass wsX4_leave := goodIn_r _ [6, 7, 19, 20, 21, 22, 23, 24] (by decide +kernel) (by decide +kernel)
set_option maxRecDepth 20000 in
theorem gX4_tellAsPass_X4_leave : GoodIn wsX4_tellAsPass (wsV RX4 256 RX4 yX4_leave wsX4_leave) := goodIn_app (goodIn_of _ (by decide +kernel)) ggX4_tellAsPass_X4_leave
set_option maxRecDepth 20000 in
theorem ggX4_tellAsPass_X0_heightOf : GoodIn wsX4_tellAsPass wsX0_heightOf := goodIn_r _ [12, 13, 14, 15, 16, 11, 17, 18, 25, 26, 27, 28, 29] (by decide +kernel) (by decide +kernel)
set_option maxRecDepth 20000 in
theorem gX4_tellAsPass_X0_heightOf : GoodIn wsX4_tellAsPass (wsV RX4 85 RX0 yX0_heightOf wsX0_heightOf) := goodIn_app (goodIn_of _ (by decide +kernel)) ggX4_tellAsPass_X0_heightOf
theorem dX4_tellAsPass_0 : decode cX4_tellAsPass 0 = .ok (.aload_n 0, 1) := by decide +kernel
theorem dX4_tellAsPass_1 : decode cX4_tellAsPass 1 = .ok (.iconst 1, 1) := by decide +kernel
theorem dX4_tellAsPass_2 : decode cX4_tellAsPass 2 = .ok (.invokevirtual 256, 3) := by decide +kernel
theorem dX4_tellAsPass_5 : decode cX4_tellAsPass 5 = .ok (.iconst 0, 1) := by decide +kernel
theorem dX4_tellAsPass_6 : decode cX4_tellAsPass 6 = .ok (.istore_n 2, 1) := by decide +kernel
theorem dX4_tellAsPass_7 : decode cX4_tellAsPass 7 = .ok (.iconst 0, 1) := by decide +kernel
theorem dX4_tellAsPass_8 : decode cX4_tellAsPass 8 = .ok (.istore_n 3, 1) := by decide +kernel
theorem dX4_tellAsPass_9 : decode cX4_tellAsPass 9 = .ok (.iload_n 3, 1) := by decide +kernel
theorem dX4_tellAsPass_10 : decode cX4_tellAsPass 10 = .ok (.iconst 3, 1) := by decide +kernel
theorem dX4_tellAsPass_11 : decode cX4_tellAsPass 11 = .ok (.if_icmp .ge 21, 3) := by decide +kernel
theorem dX4_tellAsPass_14 : decode cX4_tellAsPass 14 = .ok (.iload_n 2, 1) := by decide +kernel
theorem dX4_tellAsPass_15 : decode cX4_tellAsPass 15 = .ok (.aload_n 0, 1) := by decide +kernel
theorem dX4_tellAsPass_16 : decode cX4_tellAsPass 16 = .ok (.getfield 20, 3) := by decide +kernel
theorem dX4_tellAsPass_19 : decode cX4_tellAsPass 19 = .ok (.iload_n 1, 1) := by decide +kernel
theorem dX4_tellAsPass_20 : decode cX4_tellAsPass 20 = .ok (.iload_n 3, 1) := by decide +kernel
theorem dX4_tellAsPass_21 : decode cX4_tellAsPass 21 = .ok (.invokevirtual 85, 3) := by decide +kernel
theorem dX4_tellAsPass_24 : decode cX4_tellAsPass 24 = .ok (.iadd, 1) := by decide +kernel
theorem dX4_tellAsPass_25 : decode cX4_tellAsPass 25 = .ok (.istore_n 2, 1) := by decide +kernel
theorem dX4_tellAsPass_26 : decode cX4_tellAsPass 26 = .ok (.iinc 3 1, 3) := by decide +kernel
theorem dX4_tellAsPass_29 : decode cX4_tellAsPass 29 = .ok (.goto (-20), 3) := by decide +kernel
theorem dX4_tellAsPass_32 : decode cX4_tellAsPass 32 = .ok (.iload_n 2, 1) := by decide +kernel
theorem dX4_tellAsPass_33 : decode cX4_tellAsPass 33 = .ok (.ireturn, 1) := by decide +kernel
set_option maxRecDepth 20000 in
theorem ggX4_tellAsLent_X4_leave : GoodIn wsX4_tellAsLent wsX4_leave := goodIn_r _ [5, 6, 23, 24, 25, 26, 27, 28] (by decide +kernel) (by decide +kernel)
set_option maxRecDepth 20000 in
theorem gX4_tellAsLent_X4_leave : GoodIn wsX4_tellAsLent (wsV RX4 256 RX4 yX4_leave wsX4_leave) := goodIn_app (goodIn_of _ (by decide +kernel)) ggX4_tellAsLent_X4_leave
set_option maxRecDepth 20000 in
theorem ggX4_tellAsLent_X4_tellAsPass : GoodIn wsX4_tellAsLent wsX4_tellAsPass := goodIn_r _ [10, 11, 1, 2, 3, 4, 5, 6, 12, 13, 14, 15, 16, 17, 18, 19, 20, 21, 22, 23, 24, 25, 26, 27, 28, 29, 30, 31, 32, 33] (by decide +kernel) (by decide +kernel)
set_option maxRecDepth 20000 in
theorem gX4_tellAsLent_X4_tellAsPass : GoodIn wsX4_tellAsLent (wsV RX4 247 RX4 yX4_tellAsPass wsX4_tellAsPass) := goodIn_app (goodIn_of _ (by decide +kernel)) ggX4_tellAsLent_X4_tellAsPass
theorem dX4_tellAsLent_0 : decode cX4_tellAsLent 0 = .ok (.aload_n 0, 1) := by decide +kernel
theorem dX4_tellAsLent_1 : decode cX4_tellAsLent 1 = .ok (.iconst 2, 1) := by decide +kernel
theorem dX4_tellAsLent_2 : decode cX4_tellAsLent 2 = .ok (.invokevirtual 256, 3) := by decide +kernel
theorem dX4_tellAsLent_5 : decode cX4_tellAsLent 5 = .ok (.aload_n 0, 1) := by decide +kernel
theorem dX4_tellAsLent_6 : decode cX4_tellAsLent 6 = .ok (.iload_n 1, 1) := by decide +kernel
theorem dX4_tellAsLent_7 : decode cX4_tellAsLent 7 = .ok (.invokevirtual 247, 3) := by decide +kernel
theorem dX4_tellAsLent_10 : decode cX4_tellAsLent 10 = .ok (.bipush 100, 2) := by decide +kernel
theorem dX4_tellAsLent_12 : decode cX4_tellAsLent 12 = .ok (.iadd, 1) := by decide +kernel
theorem dX4_tellAsLent_13 : decode cX4_tellAsLent 13 = .ok (.ireturn, 1) := by decide +kernel
set_option maxRecDepth 20000 in
theorem ggX4_tellAsDrawn_X4_leave : GoodIn wsX4_tellAsDrawn wsX4_leave := goodIn_r _ [5, 6, 27, 28, 29, 30, 31, 32] (by decide +kernel) (by decide +kernel)
set_option maxRecDepth 20000 in
theorem gX4_tellAsDrawn_X4_leave : GoodIn wsX4_tellAsDrawn (wsV RX4 256 RX4 yX4_leave wsX4_leave) := goodIn_app (goodIn_of _ (by decide +kernel)) ggX4_tellAsDrawn_X4_leave
set_option maxRecDepth 20000 in
theorem ggX4_tellAsDrawn_X4_tellAsLent : GoodIn wsX4_tellAsDrawn wsX4_tellAsLent := goodIn_r _ [10, 1, 2, 3, 4, 5, 6, 11, 12, 13, 14, 15, 16, 17, 18, 19, 20, 21, 22, 23, 24, 25, 26, 27, 28, 29, 30, 31, 32, 33, 34, 35, 36, 37] (by decide +kernel) (by decide +kernel)
set_option maxRecDepth 20000 in
theorem gX4_tellAsDrawn_X4_tellAsLent : GoodIn wsX4_tellAsDrawn (wsV RX4 244 RX4 yX4_tellAsLent wsX4_tellAsLent) := goodIn_app (goodIn_of _ (by decide +kernel)) ggX4_tellAsDrawn_X4_tellAsLent
set_option maxRecDepth 20000 in
theorem ggX4_tellAsDrawn_X4_tellAsPass : GoodIn wsX4_tellAsDrawn wsX4_tellAsPass := goodIn_r _ [14, 15, 1, 2, 3, 4, 5, 6, 16, 17, 18, 19, 20, 21, 22, 23, 24, 25, 26, 27, 28, 29, 30, 31, 32, 33, 34, 35, 36, 37] (by decide +kernel) (by decide +kernel)
set_option maxRecDepth 20000 in
theorem gX4_tellAsDrawn_X4_tellAsPass : GoodIn wsX4_tellAsDrawn (wsV RX4 247 RX4 yX4_tellAsPass wsX4_tellAsPass) := goodIn_app (goodIn_of _ (by decide +kernel)) ggX4_tellAsDrawn_X4_tellAsPass
theorem dX4_tellAsDrawn_0 : decode cX4_tellAsDrawn 0 = .ok (.aload_n 0, 1) := by decide +kernel
theorem dX4_tellAsDrawn_1 : decode cX4_tellAsDrawn 1 = .ok (.iconst 3, 1) := by decide +kernel
theorem dX4_tellAsDrawn_2 : decode cX4_tellAsDrawn 2 = .ok (.invokevirtual 256, 3) := by decide +kernel
theorem dX4_tellAsDrawn_5 : decode cX4_tellAsDrawn 5 = .ok (.aload_n 0, 1) := by decide +kernel
theorem dX4_tellAsDrawn_6 : decode cX4_tellAsDrawn 6 = .ok (.iload_n 1, 1) := by decide +kernel
theorem dX4_tellAsDrawn_7 : decode cX4_tellAsDrawn 7 = .ok (.invokevirtual 244, 3) := by decide +kernel
theorem dX4_tellAsDrawn_10 : decode cX4_tellAsDrawn 10 = .ok (.istore_n 2, 1) := by decide +kernel
theorem dX4_tellAsDrawn_11 : decode cX4_tellAsDrawn 11 = .ok (.iload_n 2, 1) := by decide +kernel
theorem dX4_tellAsDrawn_12 : decode cX4_tellAsDrawn 12 = .ok (.aload_n 0, 1) := by decide +kernel
theorem dX4_tellAsDrawn_13 : decode cX4_tellAsDrawn 13 = .ok (.iload_n 1, 1) := by decide +kernel
theorem dX4_tellAsDrawn_14 : decode cX4_tellAsDrawn 14 = .ok (.invokevirtual 247, 3) := by decide +kernel
theorem dX4_tellAsDrawn_17 : decode cX4_tellAsDrawn 17 = .ok (.iadd, 1) := by decide +kernel
theorem dX4_tellAsDrawn_18 : decode cX4_tellAsDrawn 18 = .ok (.ireturn, 1) := by decide +kernel
set_option maxRecDepth 20000 in
theorem ggX4_sealAsAny_X4_leave : GoodIn wsX4_sealAsAny wsX4_leave := goodIn_r _ [5, 6, 7, 8, 9, 10, 11, 12] (by decide +kernel) (by decide +kernel)
set_option maxRecDepth 20000 in
theorem gX4_sealAsAny_X4_leave : GoodIn wsX4_sealAsAny (wsV RX4 256 RX4 yX4_leave wsX4_leave) := goodIn_app (goodIn_of _ (by decide +kernel)) ggX4_sealAsAny_X4_leave
theorem dX4_sealAsAny_0 : decode cX4_sealAsAny 0 = .ok (.aload_n 0, 1) := by decide +kernel
theorem dX4_sealAsAny_1 : decode cX4_sealAsAny 1 = .ok (.iconst 4, 1) := by decide +kernel
theorem dX4_sealAsAny_2 : decode cX4_sealAsAny 2 = .ok (.invokevirtual 256, 3) := by decide +kernel
theorem dX4_sealAsAny_5 : decode cX4_sealAsAny 5 = .ok (.iload_n 1, 1) := by decide +kernel
theorem dX4_sealAsAny_6 : decode cX4_sealAsAny 6 = .ok (.ireturn, 1) := by decide +kernel
set_option maxRecDepth 20000 in
theorem ggX4_sealAsDrawn_X4_leave : GoodIn wsX4_sealAsDrawn wsX4_leave := goodIn_r _ [5, 6, 7, 8, 9, 10, 11, 12] (by decide +kernel) (by decide +kernel)
set_option maxRecDepth 20000 in
theorem gX4_sealAsDrawn_X4_leave : GoodIn wsX4_sealAsDrawn (wsV RX4 256 RX4 yX4_leave wsX4_leave) := goodIn_app (goodIn_of _ (by decide +kernel)) ggX4_sealAsDrawn_X4_leave
theorem dX4_sealAsDrawn_0 : decode cX4_sealAsDrawn 0 = .ok (.aload_n 0, 1) := by decide +kernel
theorem dX4_sealAsDrawn_1 : decode cX4_sealAsDrawn 1 = .ok (.iconst 5, 1) := by decide +kernel
theorem dX4_sealAsDrawn_2 : decode cX4_sealAsDrawn 2 = .ok (.invokevirtual 256, 3) := by decide +kernel
theorem dX4_sealAsDrawn_5 : decode cX4_sealAsDrawn 5 = .ok (.bipush 70, 2) := by decide +kernel
theorem dX4_sealAsDrawn_7 : decode cX4_sealAsDrawn 7 = .ok (.ireturn, 1) := by decide +kernel
theorem dX4_leave_0 : decode cX4_leave 0 = .ok (.aload_n 0, 1) := by decide +kernel
theorem dX4_leave_1 : decode cX4_leave 1 = .ok (.bipush 31, 2) := by decide +kernel
theorem dX4_leave_3 : decode cX4_leave 3 = .ok (.aload_n 0, 1) := by decide +kernel
theorem dX4_leave_4 : decode cX4_leave 4 = .ok (.getfield 38, 3) := by decide +kernel
theorem dX4_leave_7 : decode cX4_leave 7 = .ok (.imul, 1) := by decide +kernel
theorem dX4_leave_8 : decode cX4_leave 8 = .ok (.iload_n 1, 1) := by decide +kernel
theorem dX4_leave_9 : decode cX4_leave 9 = .ok (.iadd, 1) := by decide +kernel
theorem dX4_leave_10 : decode cX4_leave 10 = .ok (.putfield 38, 3) := by decide +kernel
theorem dX4_leave_13 : decode cX4_leave 13 = .ok (.return_, 1) := by decide +kernel
theorem dX4_failBy_0 : decode cX4_failBy 0 = .ok (.aload_n 0, 1) := by decide +kernel
theorem dX4_failBy_1 : decode cX4_failBy 1 = .ok (.iload_n 1, 1) := by decide +kernel
theorem dX4_failBy_2 : decode cX4_failBy 2 = .ok (.putfield 42, 3) := by decide +kernel
theorem dX4_failBy_5 : decode cX4_failBy 5 = .ok (.bipush (-10), 2) := by decide +kernel
theorem dX4_failBy_7 : decode cX4_failBy 7 = .ok (.iload_n 1, 1) := by decide +kernel
theorem dX4_failBy_8 : decode cX4_failBy 8 = .ok (.isub, 1) := by decide +kernel
theorem dX4_failBy_9 : decode cX4_failBy 9 = .ok (.ireturn, 1) := by decide +kernel
set_option maxRecDepth 20000 in
theorem ggX4_faultOfRow_X2_hasNothing : GoodIn wsX4_faultOfRow wsX2_hasNothing := goodIn_r _ [5, 6, 11, 12, 13] (by decide +kernel) (by decide +kernel)
set_option maxRecDepth 20000 in
theorem gX4_faultOfRow_X2_hasNothing : GoodIn wsX4_faultOfRow (wsV RX4 208 RX2 yX2_hasNothing wsX2_hasNothing) := goodIn_app (goodIn_of _ (by decide +kernel)) ggX4_faultOfRow_X2_hasNothing
set_option maxRecDepth 20000 in
theorem ggX4_faultOfRow_X2_isOfAnother : GoodIn wsX4_faultOfRow wsX2_isOfAnother := goodIn_r _ [10, 6, 11, 12, 13] (by decide +kernel) (by decide +kernel)
set_option maxRecDepth 20000 in
theorem gX4_faultOfRow_X2_isOfAnother : GoodIn wsX4_faultOfRow (wsV RX4 230 RX2 yX2_isOfAnother wsX2_isOfAnother) := goodIn_app (goodIn_of _ (by decide +kernel)) ggX4_faultOfRow_X2_isOfAnother
theorem dX4_faultOfRow_0 : decode cX4_faultOfRow 0 = .ok (.aload_n 0, 1) := by decide +kernel
theorem dX4_faultOfRow_1 : decode cX4_faultOfRow 1 = .ok (.invokevirtual 208, 3) := by decide +kernel
theorem dX4_faultOfRow_4 : decode cX4_faultOfRow 4 = .ok (.ifCond .eq 5, 3) := by decide +kernel
theorem dX4_faultOfRow_7 : decode cX4_faultOfRow 7 = .ok (.iconst 1, 1) := by decide +kernel
theorem dX4_faultOfRow_8 : decode cX4_faultOfRow 8 = .ok (.ireturn, 1) := by decide +kernel
theorem dX4_faultOfRow_9 : decode cX4_faultOfRow 9 = .ok (.aload_n 0, 1) := by decide +kernel
theorem dX4_faultOfRow_10 : decode cX4_faultOfRow 10 = .ok (.iload_n 1, 1) := by decide +kernel
theorem dX4_faultOfRow_11 : decode cX4_faultOfRow 11 = .ok (.invokevirtual 230, 3) := by decide +kernel
theorem dX4_faultOfRow_14 : decode cX4_faultOfRow 14 = .ok (.ifCond .eq 7, 3) := by decide +kernel
theorem dX4_faultOfRow_17 : decode cX4_faultOfRow 17 = .ok (.iconst 2, 1) := by decide +kernel
theorem dX4_faultOfRow_18 : decode cX4_faultOfRow 18 = .ok (.goto 4, 3) := by decide +kernel
theorem dX4_faultOfRow_21 : decode cX4_faultOfRow 21 = .ok (.iconst 0, 1) := by decide +kernel
theorem dX4_faultOfRow_22 : decode cX4_faultOfRow 22 = .ok (.ireturn, 1) := by decide +kernel
set_option maxRecDepth 20000 in
theorem ggX4_faultOfCells_X4_faultOfRow : GoodIn wsX4_faultOfCells wsX4_faultOfRow := goodIn_r _ [4, 5, 6, 7, 8, 9, 10, 11, 12, 13, 14, 20, 21, 22] (by decide +kernel) (by decide +kernel)
set_option maxRecDepth 20000 in
theorem gX4_faultOfCells_X4_faultOfRow : GoodIn wsX4_faultOfCells (va_wsS RX4 220 yX4_faultOfRow wsX4_faultOfRow) := goodIn_app (goodIn_of _ (by decide +kernel)) ggX4_faultOfCells_X4_faultOfRow
set_option maxRecDepth 20000 in
theorem ggX4_faultOfCells_X2_hasCells : GoodIn wsX4_faultOfCells wsX2_hasCells := goodIn_r _ [18, 19, 20, 21, 22] (by decide +kernel) (by decide +kernel)
set_option maxRecDepth 20000 in
theorem gX4_faultOfCells_X2_hasCells : GoodIn wsX4_faultOfCells (wsV RX4 233 RX2 yX2_hasCells wsX2_hasCells) := goodIn_app (goodIn_of _ (by decide +kernel)) ggX4_faultOfCells_X2_hasCells
theorem dX4_faultOfCells_0 : decode cX4_faultOfCells 0 = .ok (.aload_n 0, 1) := by decide +kernel
theorem dX4_faultOfCells_1 : decode cX4_faultOfCells 1 = .ok (.iload_n 1, 1) := by decide +kernel
theorem dX4_faultOfCells_2 : decode cX4_faultOfCells 2 = .ok (.invokestatic 220, 3) := by decide +kernel
theorem dX4_faultOfCells_5 : decode cX4_faultOfCells 5 = .ok (.istore 4, 2) := by decide +kernel
theorem dX4_faultOfCells_7 : decode cX4_faultOfCells 7 = .ok (.iload 4, 2) := by decide +kernel
theorem dX4_faultOfCells_9 : decode cX4_faultOfCells 9 = .ok (.ifCond .ne 16, 3) := by decide +kernel
theorem dX4_faultOfCells_12 : decode cX4_faultOfCells 12 = .ok (.aload_n 0, 1) := by decide +kernel
theorem dX4_faultOfCells_13 : decode cX4_faultOfCells 13 = .ok (.iload_n 2, 1) := by decide +kernel
theorem dX4_faultOfCells_14 : decode cX4_faultOfCells 14 = .ok (.iload_n 3, 1) := by decide +kernel
theorem dX4_faultOfCells_15 : decode cX4_faultOfCells 15 = .ok (.invokevirtual 233, 3) := by decide +kernel
theorem dX4_faultOfCells_18 : decode cX4_faultOfCells 18 = .ok (.ifCond .ne 7, 3) := by decide +kernel
theorem dX4_faultOfCells_21 : decode cX4_faultOfCells 21 = .ok (.iconst 3, 1) := by decide +kernel
theorem dX4_faultOfCells_22 : decode cX4_faultOfCells 22 = .ok (.goto 5, 3) := by decide +kernel
theorem dX4_faultOfCells_25 : decode cX4_faultOfCells 25 = .ok (.iload 4, 2) := by decide +kernel
theorem dX4_faultOfCells_27 : decode cX4_faultOfCells 27 = .ok (.ireturn, 1) := by decide +kernel
set_option maxRecDepth 20000 in
theorem ggX4_faultOfText_X4_faultOfCells : GoodIn wsX4_faultOfText wsX4_faultOfCells := goodIn_r _ [4, 5, 6, 3, 7, 8, 9, 10, 11, 12, 13, 14, 15, 16, 17, 18, 19, 20, 21, 22, 23, 24, 25] (by decide +kernel) (by decide +kernel)
set_option maxRecDepth 20000 in
theorem gX4_faultOfText_X4_faultOfCells : GoodIn wsX4_faultOfText (va_wsS RX4 146 yX4_faultOfCells wsX4_faultOfCells) := goodIn_app (goodIn_of _ (by decide +kernel)) ggX4_faultOfText_X4_faultOfCells
theorem dX4_faultOfText_0 : decode cX4_faultOfText 0 = .ok (.aload_n 0, 1) := by decide +kernel
theorem dX4_faultOfText_1 : decode cX4_faultOfText 1 = .ok (.iload_n 1, 1) := by decide +kernel
theorem dX4_faultOfText_2 : decode cX4_faultOfText 2 = .ok (.iload_n 2, 1) := by decide +kernel
theorem dX4_faultOfText_3 : decode cX4_faultOfText 3 = .ok (.iload_n 3, 1) := by decide +kernel
theorem dX4_faultOfText_4 : decode cX4_faultOfText 4 = .ok (.invokestatic 146, 3) := by decide +kernel
theorem dX4_faultOfText_7 : decode cX4_faultOfText 7 = .ok (.istore 4, 2) := by decide +kernel
theorem dX4_faultOfText_9 : decode cX4_faultOfText 9 = .ok (.iload 4, 2) := by decide +kernel
theorem dX4_faultOfText_11 : decode cX4_faultOfText 11 = .ok (.iconst 3, 1) := by decide +kernel
theorem dX4_faultOfText_12 : decode cX4_faultOfText 12 = .ok (.if_icmp .ne 11, 3) := by decide +kernel
theorem dX4_faultOfText_15 : decode cX4_faultOfText 15 = .ok (.iload_n 3, 1) := by decide +kernel
theorem dX4_faultOfText_16 : decode cX4_faultOfText 16 = .ok (.ifCond .ge 7, 3) := by decide +kernel
theorem dX4_faultOfText_19 : decode cX4_faultOfText 19 = .ok (.iconst 4, 1) := by decide +kernel
theorem dX4_faultOfText_20 : decode cX4_faultOfText 20 = .ok (.goto 5, 3) := by decide +kernel
theorem dX4_faultOfText_23 : decode cX4_faultOfText 23 = .ok (.iload 4, 2) := by decide +kernel
theorem dX4_faultOfText_25 : decode cX4_faultOfText 25 = .ok (.ireturn, 1) := by decide +kernel
theorem dX4_within_0 : decode cX4_within 0 = .ok (.iload_n 0, 1) := by decide +kernel
theorem dX4_within_1 : decode cX4_within 1 = .ok (.iload_n 1, 1) := by decide +kernel
theorem dX4_within_2 : decode cX4_within 2 = .ok (.if_icmp .lt 12, 3) := by decide +kernel
theorem dX4_within_5 : decode cX4_within 5 = .ok (.iload_n 0, 1) := by decide +kernel
theorem dX4_within_6 : decode cX4_within 6 = .ok (.iload_n 2, 1) := by decide +kernel
theorem dX4_within_7 : decode cX4_within 7 = .ok (.if_icmp .gt 7, 3) := by decide +kernel
theorem dX4_within_10 : decode cX4_within 10 = .ok (.iconst 1, 1) := by decide +kernel
theorem dX4_within_11 : decode cX4_within 11 = .ok (.goto 4, 3) := by decide +kernel
theorem dX4_within_14 : decode cX4_within 14 = .ok (.iconst 0, 1) := by decide +kernel
theorem dX4_within_15 : decode cX4_within 15 = .ok (.ireturn, 1) := by decide +kernel
set_option maxRecDepth 20000 in
theorem ggX4_isSheet_X4_within : GoodIn wsX4_isSheet wsX4_within := goodIn_r _ [4] (by decide +kernel) (by decide +kernel)
set_option maxRecDepth 20000 in
theorem gX4_isSheet_X4_within : GoodIn wsX4_isSheet (va_wsS RX4 77 yX4_within wsX4_within) := goodIn_app (goodIn_of _ (by decide +kernel)) ggX4_isSheet_X4_within
theorem dX4_isSheet_0 : decode cX4_isSheet 0 = .ok (.iload_n 0, 1) := by decide +kernel
theorem dX4_isSheet_1 : decode cX4_isSheet 1 = .ok (.iconst 0, 1) := by decide +kernel
theorem dX4_isSheet_2 : decode cX4_isSheet 2 = .ok (.iconst 3, 1) := by decide +kernel
theorem dX4_isSheet_3 : decode cX4_isSheet 3 = .ok (.invokestatic 77, 3) := by decide +kernel
theorem dX4_isSheet_6 : decode cX4_isSheet 6 = .ok (.ireturn, 1) := by decide +kernel
set_option maxRecDepth 20000 in
theorem ggX4_isLane_X4_within : GoodIn wsX4_isLane wsX4_within := goodIn_r _ [4] (by decide +kernel) (by decide +kernel)
set_option maxRecDepth 20000 in
theorem gX4_isLane_X4_within : GoodIn wsX4_isLane (va_wsS RX4 77 yX4_within wsX4_within) := goodIn_app (goodIn_of _ (by decide +kernel)) ggX4_isLane_X4_within
theorem dX4_isLane_0 : decode cX4_isLane 0 = .ok (.iload_n 0, 1) := by decide +kernel
theorem dX4_isLane_1 : decode cX4_isLane 1 = .ok (.iconst 0, 1) := by decide +kernel
theorem dX4_isLane_2 : decode cX4_isLane 2 = .ok (.iconst 2, 1) := by decide +kernel
theorem dX4_isLane_3 : decode cX4_isLane 3 = .ok (.invokestatic 77, 3) := by decide +kernel
theorem dX4_isLane_6 : decode cX4_isLane 6 = .ok (.ireturn, 1) := by decide +kernel
set_option maxRecDepth 20000 in
theorem ggX4_isPlace_X4_within : GoodIn wsX4_isPlace wsX4_within := goodIn_r _ [4] (by decide +kernel) (by decide +kernel)
set_option maxRecDepth 20000 in
theorem gX4_isPlace_X4_within : GoodIn wsX4_isPlace (va_wsS RX4 77 yX4_within wsX4_within) := goodIn_app (goodIn_of _ (by decide +kernel)) ggX4_isPlace_X4_within
theorem dX4_isPlace_0 : decode cX4_isPlace 0 = .ok (.iload_n 0, 1) := by decide +kernel
theorem dX4_isPlace_1 : decode cX4_isPlace 1 = .ok (.iconst 0, 1) := by decide +kernel
theorem dX4_isPlace_2 : decode cX4_isPlace 2 = .ok (.iconst 2, 1) := by decide +kernel
theorem dX4_isPlace_3 : decode cX4_isPlace 3 = .ok (.invokestatic 77, 3) := by decide +kernel
theorem dX4_isPlace_6 : decode cX4_isPlace 6 = .ok (.ireturn, 1) := by decide +kernel
set_option maxRecDepth 20000 in
theorem ggX4_isMonths_X4_within : GoodIn wsX4_isMonths wsX4_within := goodIn_r _ [4] (by decide +kernel) (by decide +kernel)
set_option maxRecDepth 20000 in
theorem gX4_isMonths_X4_within : GoodIn wsX4_isMonths (va_wsS RX4 77 yX4_within wsX4_within) := goodIn_app (goodIn_of _ (by decide +kernel)) ggX4_isMonths_X4_within
theorem dX4_isMonths_0 : decode cX4_isMonths 0 = .ok (.iload_n 0, 1) := by decide +kernel
theorem dX4_isMonths_1 : decode cX4_isMonths 1 = .ok (.iconst 0, 1) := by decide +kernel
theorem dX4_isMonths_2 : decode cX4_isMonths 2 = .ok (.bipush 9, 2) := by decide +kernel
theorem dX4_isMonths_4 : decode cX4_isMonths 4 = .ok (.invokestatic 77, 3) := by decide +kernel
theorem dX4_isMonths_7 : decode cX4_isMonths 7 = .ok (.ireturn, 1) := by decide +kernel
set_option maxRecDepth 20000 in
theorem ggX4_isAskable_X4_within : GoodIn wsX4_isAskable wsX4_within := goodIn_r _ [4] (by decide +kernel) (by decide +kernel)
set_option maxRecDepth 20000 in
theorem gX4_isAskable_X4_within : GoodIn wsX4_isAskable (va_wsS RX4 77 yX4_within wsX4_within) := goodIn_app (goodIn_of _ (by decide +kernel)) ggX4_isAskable_X4_within
theorem dX4_isAskable_0 : decode cX4_isAskable 0 = .ok (.iload_n 0, 1) := by decide +kernel
theorem dX4_isAskable_1 : decode cX4_isAskable 1 = .ok (.iconst 0, 1) := by decide +kernel
theorem dX4_isAskable_2 : decode cX4_isAskable 2 = .ok (.iconst 3, 1) := by decide +kernel
theorem dX4_isAskable_3 : decode cX4_isAskable 3 = .ok (.invokestatic 77, 3) := by decide +kernel
theorem dX4_isAskable_6 : decode cX4_isAskable 6 = .ok (.ifCond .ne 14, 3) := by decide +kernel
theorem dX4_isAskable_9 : decode cX4_isAskable 9 = .ok (.iload_n 0, 1) := by decide +kernel
theorem dX4_isAskable_10 : decode cX4_isAskable 10 = .ok (.bipush 10, 2) := by decide +kernel
theorem dX4_isAskable_12 : decode cX4_isAskable 12 = .ok (.bipush 15, 2) := by decide +kernel
theorem dX4_isAskable_14 : decode cX4_isAskable 14 = .ok (.invokestatic 77, 3) := by decide +kernel
theorem dX4_isAskable_17 : decode cX4_isAskable 17 = .ok (.ifCond .eq 7, 3) := by decide +kernel
theorem dX4_isAskable_20 : decode cX4_isAskable 20 = .ok (.iconst 1, 1) := by decide +kernel
theorem dX4_isAskable_21 : decode cX4_isAskable 21 = .ok (.goto 4, 3) := by decide +kernel
theorem dX4_isAskable_24 : decode cX4_isAskable 24 = .ok (.iconst 0, 1) := by decide +kernel
theorem dX4_isAskable_25 : decode cX4_isAskable 25 = .ok (.ireturn, 1) := by decide +kernel
theorem dX4_bitIf_0 : decode cX4_bitIf 0 = .ok (.iload_n 0, 1) := by decide +kernel
theorem dX4_bitIf_1 : decode cX4_bitIf 1 = .ok (.ifCond .eq 9, 3) := by decide +kernel
theorem dX4_bitIf_4 : decode cX4_bitIf 4 = .ok (.iconst 1, 1) := by decide +kernel
theorem dX4_bitIf_5 : decode cX4_bitIf 5 = .ok (.iload_n 1, 1) := by decide +kernel
theorem dX4_bitIf_6 : decode cX4_bitIf 6 = .ok (.ishl, 1) := by decide +kernel
theorem dX4_bitIf_7 : decode cX4_bitIf 7 = .ok (.goto 4, 3) := by decide +kernel
theorem dX4_bitIf_10 : decode cX4_bitIf 10 = .ok (.iconst 0, 1) := by decide +kernel
theorem dX4_bitIf_11 : decode cX4_bitIf 11 = .ok (.ireturn, 1) := by decide +kernel
theorem dX5_init_0 : decode cX5_init 0 = .ok (.aload_n 0, 1) := by decide +kernel
theorem dX5_init_1 : decode cX5_init 1 = .ok (.invokespecial 1, 3) := by decide +kernel
theorem dX5_init_4 : decode cX5_init 4 = .ok (.aload_n 0, 1) := by decide +kernel
theorem dX5_init_5 : decode cX5_init 5 = .ok (.iconst 4, 1) := by decide +kernel
theorem dX5_init_6 : decode cX5_init 6 = .ok (.newarray .int, 2) := by decide +kernel
theorem dX5_init_8 : decode cX5_init 8 = .ok (.dup, 1) := by decide +kernel
theorem dX5_init_9 : decode cX5_init 9 = .ok (.iconst 0, 1) := by decide +kernel
theorem dX5_init_10 : decode cX5_init 10 = .ok (.bipush (-9), 2) := by decide +kernel
theorem dX5_init_12 : decode cX5_init 12 = .ok (.iastore, 1) := by decide +kernel
theorem dX5_init_13 : decode cX5_init 13 = .ok (.dup, 1) := by decide +kernel
theorem dX5_init_14 : decode cX5_init 14 = .ok (.iconst 1, 1) := by decide +kernel
theorem dX5_init_15 : decode cX5_init 15 = .ok (.bipush (-9), 2) := by decide +kernel
theorem dX5_init_17 : decode cX5_init 17 = .ok (.iastore, 1) := by decide +kernel
theorem dX5_init_18 : decode cX5_init 18 = .ok (.dup, 1) := by decide +kernel
theorem dX5_init_19 : decode cX5_init 19 = .ok (.iconst 2, 1) := by decide +kernel
theorem dX5_init_20 : decode cX5_init 20 = .ok (.bipush (-9), 2) := by decide +kernel
theorem dX5_init_22 : decode cX5_init 22 = .ok (.iastore, 1) := by decide +kernel
theorem dX5_init_23 : decode cX5_init 23 = .ok (.dup, 1) := by decide +kernel
theorem dX5_init_24 : decode cX5_init 24 = .ok (.iconst 3, 1) := by decide +kernel
theorem dX5_init_25 : decode cX5_init 25 = .ok (.bipush (-9), 2) := by decide +kernel
theorem dX5_init_27 : decode cX5_init 27 = .ok (.iastore, 1) := by decide +kernel
theorem dX5_init_28 : decode cX5_init 28 = .ok (.putfield 9, 3) := by decide +kernel
theorem dX5_init_31 : decode cX5_init 31 = .ok (.aload_n 0, 1) := by decide +kernel
theorem dX5_init_32 : decode cX5_init 32 = .ok (.iconst 4, 1) := by decide +kernel
theorem dX5_init_33 : decode cX5_init 33 = .ok (.newarray .int, 2) := by decide +kernel
theorem dX5_init_35 : decode cX5_init 35 = .ok (.putfield 13, 3) := by decide +kernel
theorem dX5_init_38 : decode cX5_init 38 = .ok (.aload_n 0, 1) := by decide +kernel
theorem dX5_init_39 : decode cX5_init 39 = .ok (.sipush 240, 3) := by decide +kernel
theorem dX5_init_42 : decode cX5_init 42 = .ok (.newarray .int, 2) := by decide +kernel
theorem dX5_init_44 : decode cX5_init 44 = .ok (.putfield 16, 3) := by decide +kernel
theorem dX5_init_47 : decode cX5_init 47 = .ok (.aload_n 0, 1) := by decide +kernel
theorem dX5_init_48 : decode cX5_init 48 = .ok (.bipush 6, 2) := by decide +kernel
theorem dX5_init_50 : decode cX5_init 50 = .ok (.newarray .int, 2) := by decide +kernel
theorem dX5_init_52 : decode cX5_init 52 = .ok (.putfield 19, 3) := by decide +kernel
theorem dX5_init_55 : decode cX5_init 55 = .ok (.aload_n 0, 1) := by decide +kernel
theorem dX5_init_56 : decode cX5_init 56 = .ok (.bipush 18, 2) := by decide +kernel
theorem dX5_init_58 : decode cX5_init 58 = .ok (.newarray .int, 2) := by decide +kernel
theorem dX5_init_60 : decode cX5_init 60 = .ok (.putfield 22, 3) := by decide +kernel
theorem dX5_init_63 : decode cX5_init 63 = .ok (.aload_n 0, 1) := by decide +kernel
theorem dX5_init_64 : decode cX5_init 64 = .ok (.bipush 6, 2) := by decide +kernel
theorem dX5_init_66 : decode cX5_init 66 = .ok (.newarray .int, 2) := by decide +kernel
theorem dX5_init_68 : decode cX5_init 68 = .ok (.putfield 25, 3) := by decide +kernel
theorem dX5_init_71 : decode cX5_init 71 = .ok (.aload_n 0, 1) := by decide +kernel
theorem dX5_init_72 : decode cX5_init 72 = .ok (.bipush 18, 2) := by decide +kernel
theorem dX5_init_74 : decode cX5_init 74 = .ok (.newarray .int, 2) := by decide +kernel
theorem dX5_init_76 : decode cX5_init 76 = .ok (.putfield 28, 3) := by decide +kernel
theorem dX5_init_79 : decode cX5_init 79 = .ok (.aload_n 0, 1) := by decide +kernel
theorem dX5_init_80 : decode cX5_init 80 = .ok (.bipush 6, 2) := by decide +kernel
theorem dX5_init_82 : decode cX5_init 82 = .ok (.newarray .int, 2) := by decide +kernel
theorem dX5_init_84 : decode cX5_init 84 = .ok (.putfield 31, 3) := by decide +kernel
theorem dX5_init_87 : decode cX5_init 87 = .ok (.aload_n 0, 1) := by decide +kernel
theorem dX5_init_88 : decode cX5_init 88 = .ok (.bipush 8, 2) := by decide +kernel
theorem dX5_init_90 : decode cX5_init 90 = .ok (.newarray .int, 2) := by decide +kernel
theorem dX5_init_92 : decode cX5_init 92 = .ok (.putfield 34, 3) := by decide +kernel
theorem dX5_init_95 : decode cX5_init 95 = .ok (.aload_n 0, 1) := by decide +kernel
theorem dX5_init_96 : decode cX5_init 96 = .ok (.bipush 8, 2) := by decide +kernel
theorem dX5_init_98 : decode cX5_init 98 = .ok (.newarray .int, 2) := by decide +kernel
theorem dX5_init_100 : decode cX5_init 100 = .ok (.putfield 37, 3) := by decide +kernel
theorem dX5_init_103 : decode cX5_init 103 = .ok (.aload_n 0, 1) := by decide +kernel
theorem dX5_init_104 : decode cX5_init 104 = .ok (.bipush 8, 2) := by decide +kernel
theorem dX5_init_106 : decode cX5_init 106 = .ok (.newarray .int, 2) := by decide +kernel
theorem dX5_init_108 : decode cX5_init 108 = .ok (.putfield 40, 3) := by decide +kernel
theorem dX5_init_111 : decode cX5_init 111 = .ok (.aload_n 0, 1) := by decide +kernel
theorem dX5_init_112 : decode cX5_init 112 = .ok (.bipush 8, 2) := by decide +kernel
theorem dX5_init_114 : decode cX5_init 114 = .ok (.newarray .boolean, 2) := by decide +kernel
theorem dX5_init_116 : decode cX5_init 116 = .ok (.putfield 43, 3) := by decide +kernel
theorem dX5_init_119 : decode cX5_init 119 = .ok (.return_, 1) := by decide +kernel
theorem dX5_fails_0 : decode cX5_fails 0 = .ok (.aload_n 0, 1) := by decide +kernel
theorem dX5_fails_1 : decode cX5_fails 1 = .ok (.iload_n 1, 1) := by decide +kernel
theorem dX5_fails_2 : decode cX5_fails 2 = .ok (.putfield 47, 3) := by decide +kernel
theorem dX5_fails_5 : decode cX5_fails 5 = .ok (.bipush (-10), 2) := by decide +kernel
theorem dX5_fails_7 : decode cX5_fails 7 = .ok (.iload_n 1, 1) := by decide +kernel
theorem dX5_fails_8 : decode cX5_fails 8 = .ok (.isub, 1) := by decide +kernel
theorem dX5_fails_9 : decode cX5_fails 9 = .ok (.ireturn, 1) := by decide +kernel
theorem dX5_lost_0 : decode cX5_lost 0 = .ok (.aload_n 0, 1) := by decide +kernel
theorem dX5_lost_1 : decode cX5_lost 1 = .ok (.iload_n 1, 1) := by decide +kernel
theorem dX5_lost_2 : decode cX5_lost 2 = .ok (.putfield 47, 3) := by decide +kernel
theorem dX5_lost_5 : decode cX5_lost 5 = .ok (.ldc2_w 51, 3) := by decide +kernel
theorem dX5_lost_8 : decode cX5_lost 8 = .ok (.lreturn, 1) := by decide +kernel
theorem dX5_within_0 : decode cX5_within 0 = .ok (.iload_n 0, 1) := by decide +kernel
theorem dX5_within_1 : decode cX5_within 1 = .ok (.iload_n 1, 1) := by decide +kernel
theorem dX5_within_2 : decode cX5_within 2 = .ok (.if_icmp .lt 12, 3) := by decide +kernel
theorem dX5_within_5 : decode cX5_within 5 = .ok (.iload_n 0, 1) := by decide +kernel
theorem dX5_within_6 : decode cX5_within 6 = .ok (.iload_n 2, 1) := by decide +kernel
theorem dX5_within_7 : decode cX5_within 7 = .ok (.if_icmp .gt 7, 3) := by decide +kernel
theorem dX5_within_10 : decode cX5_within 10 = .ok (.iconst 1, 1) := by decide +kernel
theorem dX5_within_11 : decode cX5_within 11 = .ok (.goto 4, 3) := by decide +kernel
theorem dX5_within_14 : decode cX5_within 14 = .ok (.iconst 0, 1) := by decide +kernel
theorem dX5_within_15 : decode cX5_within 15 = .ok (.ireturn, 1) := by decide +kernel
set_option maxRecDepth 20000 in
theorem ggX5_isSheet_X5_within : GoodIn wsX5_isSheet wsX5_within := goodIn_r _ [4] (by decide +kernel) (by decide +kernel)
set_option maxRecDepth 20000 in
theorem gX5_isSheet_X5_within : GoodIn wsX5_isSheet (va_wsS RX5 53 yX5_within wsX5_within) := goodIn_app (goodIn_of _ (by decide +kernel)) ggX5_isSheet_X5_within
theorem dX5_isSheet_0 : decode cX5_isSheet 0 = .ok (.iload_n 0, 1) := by decide +kernel
theorem dX5_isSheet_1 : decode cX5_isSheet 1 = .ok (.iconst 0, 1) := by decide +kernel
theorem dX5_isSheet_2 : decode cX5_isSheet 2 = .ok (.iconst 3, 1) := by decide +kernel
theorem dX5_isSheet_3 : decode cX5_isSheet 3 = .ok (.invokestatic 53, 3) := by decide +kernel
theorem dX5_isSheet_6 : decode cX5_isSheet 6 = .ok (.ireturn, 1) := by decide +kernel
set_option maxRecDepth 20000 in
theorem ggX5_isSort_X5_within : GoodIn wsX5_isSort wsX5_within := goodIn_r _ [4] (by decide +kernel) (by decide +kernel)
set_option maxRecDepth 20000 in
theorem gX5_isSort_X5_within : GoodIn wsX5_isSort (va_wsS RX5 53 yX5_within wsX5_within) := goodIn_app (goodIn_of _ (by decide +kernel)) ggX5_isSort_X5_within
theorem dX5_isSort_0 : decode cX5_isSort 0 = .ok (.iload_n 0, 1) := by decide +kernel
theorem dX5_isSort_1 : decode cX5_isSort 1 = .ok (.iconst 0, 1) := by decide +kernel
theorem dX5_isSort_2 : decode cX5_isSort 2 = .ok (.iconst 2, 1) := by decide +kernel
theorem dX5_isSort_3 : decode cX5_isSort 3 = .ok (.invokestatic 53, 3) := by decide +kernel
theorem dX5_isSort_6 : decode cX5_isSort 6 = .ok (.ireturn, 1) := by decide +kernel
theorem dX5_against_0 : decode cX5_against 0 = .ok (.aload_n 0, 1) := by decide +kernel
theorem dX5_against_1 : decode cX5_against 1 = .ok (.getfield 9, 3) := by decide +kernel
theorem dX5_against_4 : decode cX5_against 4 = .ok (.iload_n 1, 1) := by decide +kernel
theorem dX5_against_5 : decode cX5_against 5 = .ok (.iaload, 1) := by decide +kernel
theorem dX5_against_6 : decode cX5_against 6 = .ok (.bipush (-9), 2) := by decide +kernel
theorem dX5_against_8 : decode cX5_against 8 = .ok (.if_icmp .eq 15, 3) := by decide +kernel
theorem dX5_against_11 : decode cX5_against 11 = .ok (.aload_n 0, 1) := by decide +kernel
theorem dX5_against_12 : decode cX5_against 12 = .ok (.getfield 9, 3) := by decide +kernel
theorem dX5_against_15 : decode cX5_against 15 = .ok (.iload_n 1, 1) := by decide +kernel
theorem dX5_against_16 : decode cX5_against 16 = .ok (.iaload, 1) := by decide +kernel
theorem dX5_against_17 : decode cX5_against 17 = .ok (.iload_n 2, 1) := by decide +kernel
theorem dX5_against_18 : decode cX5_against 18 = .ok (.if_icmp .eq 5, 3) := by decide +kernel
theorem dX5_against_21 : decode cX5_against 21 = .ok (.iconst 2, 1) := by decide +kernel
theorem dX5_against_22 : decode cX5_against 22 = .ok (.ireturn, 1) := by decide +kernel
theorem dX5_against_23 : decode cX5_against 23 = .ok (.aload_n 0, 1) := by decide +kernel
theorem dX5_against_24 : decode cX5_against 24 = .ok (.getfield 9, 3) := by decide +kernel
theorem dX5_against_27 : decode cX5_against 27 = .ok (.iload_n 1, 1) := by decide +kernel
theorem dX5_against_28 : decode cX5_against 28 = .ok (.iaload, 1) := by decide +kernel
theorem dX5_against_29 : decode cX5_against 29 = .ok (.bipush (-9), 2) := by decide +kernel
theorem dX5_against_31 : decode cX5_against 31 = .ok (.if_icmp .ne 5, 3) := by decide +kernel
theorem dX5_against_34 : decode cX5_against 34 = .ok (.iconst 1, 1) := by decide +kernel
theorem dX5_against_35 : decode cX5_against 35 = .ok (.ireturn, 1) := by decide +kernel
theorem dX5_against_36 : decode cX5_against 36 = .ok (.iload 4, 2) := by decide +kernel
theorem dX5_against_38 : decode cX5_against 38 = .ok (.ifCond .ge 5, 3) := by decide +kernel
theorem dX5_against_41 : decode cX5_against 41 = .ok (.iconst 4, 1) := by decide +kernel
theorem dX5_against_42 : decode cX5_against 42 = .ok (.ireturn, 1) := by decide +kernel
theorem dX5_against_43 : decode cX5_against 43 = .ok (.iload_n 3, 1) := by decide +kernel
theorem dX5_against_44 : decode cX5_against 44 = .ok (.ifCond .lt 26, 3) := by decide +kernel
theorem dX5_against_47 : decode cX5_against 47 = .ok (.iload_n 3, 1) := by decide +kernel
theorem dX5_against_48 : decode cX5_against 48 = .ok (.aload_n 0, 1) := by decide +kernel
theorem dX5_against_49 : decode cX5_against 49 = .ok (.getfield 13, 3) := by decide +kernel
theorem dX5_against_52 : decode cX5_against 52 = .ok (.iload_n 1, 1) := by decide +kernel
theorem dX5_against_53 : decode cX5_against 53 = .ok (.iaload, 1) := by decide +kernel
theorem dX5_against_54 : decode cX5_against 54 = .ok (.if_icmp .gt 16, 3) := by decide +kernel
theorem dX5_against_57 : decode cX5_against 57 = .ok (.iload 4, 2) := by decide +kernel
theorem dX5_against_59 : decode cX5_against 59 = .ok (.aload_n 0, 1) := by decide +kernel
theorem dX5_against_60 : decode cX5_against 60 = .ok (.getfield 13, 3) := by decide +kernel
theorem dX5_against_63 : decode cX5_against 63 = .ok (.iload_n 1, 1) := by decide +kernel
theorem dX5_against_64 : decode cX5_against 64 = .ok (.iaload, 1) := by decide +kernel
theorem dX5_against_65 : decode cX5_against 65 = .ok (.iload_n 3, 1) := by decide +kernel
theorem dX5_against_66 : decode cX5_against 66 = .ok (.isub, 1) := by decide +kernel
theorem dX5_against_67 : decode cX5_against 67 = .ok (.if_icmp .le 7, 3) := by decide +kernel
theorem dX5_against_70 : decode cX5_against 70 = .ok (.iconst 3, 1) := by decide +kernel
theorem dX5_against_71 : decode cX5_against 71 = .ok (.goto 4, 3) := by decide +kernel
theorem dX5_against_74 : decode cX5_against 74 = .ok (.iconst 0, 1) := by decide +kernel
theorem dX5_against_75 : decode cX5_against 75 = .ok (.ireturn, 1) := by decide +kernel
theorem dX5_isPass_0 : decode cX5_isPass 0 = .ok (.iload_n 1, 1) := by decide +kernel
theorem dX5_isPass_1 : decode cX5_isPass 1 = .ok (.ifCond .lt 15, 3) := by decide +kernel
theorem dX5_isPass_4 : decode cX5_isPass 4 = .ok (.iload_n 1, 1) := by decide +kernel
theorem dX5_isPass_5 : decode cX5_isPass 5 = .ok (.aload_n 0, 1) := by decide +kernel
theorem dX5_isPass_6 : decode cX5_isPass 6 = .ok (.getfield 57, 3) := by decide +kernel
theorem dX5_isPass_9 : decode cX5_isPass 9 = .ok (.if_icmp .ge 7, 3) := by decide +kernel
theorem dX5_isPass_12 : decode cX5_isPass 12 = .ok (.iconst 1, 1) := by decide +kernel
theorem dX5_isPass_13 : decode cX5_isPass 13 = .ok (.goto 4, 3) := by decide +kernel
theorem dX5_isPass_16 : decode cX5_isPass 16 = .ok (.iconst 0, 1) := by decide +kernel
theorem dX5_isPass_17 : decode cX5_isPass 17 = .ok (.ireturn, 1) := by decide +kernel
theorem dX5_isSet_0 : decode cX5_isSet 0 = .ok (.iload_n 1, 1) := by decide +kernel
theorem dX5_isSet_1 : decode cX5_isSet 1 = .ok (.ifCond .lt 17, 3) := by decide +kernel
theorem dX5_isSet_4 : decode cX5_isSet 4 = .ok (.iload_n 1, 1) := by decide +kernel
theorem dX5_isSet_5 : decode cX5_isSet 5 = .ok (.iconst 1, 1) := by decide +kernel
theorem dX5_isSet_6 : decode cX5_isSet 6 = .ok (.aload_n 0, 1) := by decide +kernel
theorem dX5_isSet_7 : decode cX5_isSet 7 = .ok (.getfield 57, 3) := by decide +kernel
theorem dX5_isSet_10 : decode cX5_isSet 10 = .ok (.ishl, 1) := by decide +kernel
theorem dX5_isSet_11 : decode cX5_isSet 11 = .ok (.if_icmp .ge 7, 3) := by decide +kernel
theorem dX5_isSet_14 : decode cX5_isSet 14 = .ok (.iconst 1, 1) := by decide +kernel
theorem dX5_isSet_15 : decode cX5_isSet 15 = .ok (.goto 4, 3) := by decide +kernel
theorem dX5_isSet_18 : decode cX5_isSet 18 = .ok (.iconst 0, 1) := by decide +kernel
theorem dX5_isSet_19 : decode cX5_isSet 19 = .ok (.ireturn, 1) := by decide +kernel
set_option maxRecDepth 20000 in
theorem ggX5_isDigit_X5_within : GoodIn wsX5_isDigit wsX5_within := goodIn_r _ [4] (by decide +kernel) (by decide +kernel)
set_option maxRecDepth 20000 in
theorem gX5_isDigit_X5_within : GoodIn wsX5_isDigit (va_wsS RX5 53 yX5_within wsX5_within) := goodIn_app (goodIn_of _ (by decide +kernel)) ggX5_isDigit_X5_within
theorem dX5_isDigit_0 : decode cX5_isDigit 0 = .ok (.iload_n 0, 1) := by decide +kernel
theorem dX5_isDigit_1 : decode cX5_isDigit 1 = .ok (.iconst 0, 1) := by decide +kernel
theorem dX5_isDigit_2 : decode cX5_isDigit 2 = .ok (.bipush 9, 2) := by decide +kernel
theorem dX5_isDigit_4 : decode cX5_isDigit 4 = .ok (.invokestatic 53, 3) := by decide +kernel
theorem dX5_isDigit_7 : decode cX5_isDigit 7 = .ok (.ireturn, 1) := by decide +kernel
set_option maxRecDepth 20000 in
theorem ggX5_isPlace_X5_within : GoodIn wsX5_isPlace wsX5_within := goodIn_r _ [4] (by decide +kernel) (by decide +kernel)
set_option maxRecDepth 20000 in
theorem gX5_isPlace_X5_within : GoodIn wsX5_isPlace (va_wsS RX5 53 yX5_within wsX5_within) := goodIn_app (goodIn_of _ (by decide +kernel)) ggX5_isPlace_X5_within
theorem dX5_isPlace_0 : decode cX5_isPlace 0 = .ok (.iload_n 0, 1) := by decide +kernel
theorem dX5_isPlace_1 : decode cX5_isPlace 1 = .ok (.iconst 0, 1) := by decide +kernel
theorem dX5_isPlace_2 : decode cX5_isPlace 2 = .ok (.iconst 2, 1) := by decide +kernel
theorem dX5_isPlace_3 : decode cX5_isPlace 3 = .ok (.invokestatic 53, 3) := by decide +kernel
theorem dX5_isPlace_6 : decode cX5_isPlace 6 = .ok (.ireturn, 1) := by decide +kernel
set_option maxRecDepth 20000 in
theorem ggX5_digit_X5_within : GoodIn wsX5_digit wsX5_within := goodIn_r _ [6] (by decide +kernel) (by decide +kernel)
set_option maxRecDepth 20000 in
theorem gX5_digit_X5_within : GoodIn wsX5_digit (va_wsS RX5 53 yX5_within wsX5_within) := goodIn_app (goodIn_of _ (by decide +kernel)) ggX5_digit_X5_within
theorem dX5_digit_0 : decode cX5_digit 0 = .ok (.aload_n 0, 1) := by decide +kernel
theorem dX5_digit_1 : decode cX5_digit 1 = .ok (.getfield 60, 3) := by decide +kernel
theorem dX5_digit_4 : decode cX5_digit 4 = .ok (.iload_n 1, 1) := by decide +kernel
theorem dX5_digit_5 : decode cX5_digit 5 = .ok (.if_icmp .ge 22, 3) := by decide +kernel
theorem dX5_digit_8 : decode cX5_digit 8 = .ok (.aload_n 0, 1) := by decide +kernel
theorem dX5_digit_9 : decode cX5_digit 9 = .ok (.getfield 16, 3) := by decide +kernel
theorem dX5_digit_12 : decode cX5_digit 12 = .ok (.aload_n 0, 1) := by decide +kernel
theorem dX5_digit_13 : decode cX5_digit 13 = .ok (.getfield 60, 3) := by decide +kernel
theorem dX5_digit_16 : decode cX5_digit 16 = .ok (.iaload, 1) := by decide +kernel
theorem dX5_digit_17 : decode cX5_digit 17 = .ok (.bipush 48, 2) := by decide +kernel
theorem dX5_digit_19 : decode cX5_digit 19 = .ok (.bipush 57, 2) := by decide +kernel
theorem dX5_digit_21 : decode cX5_digit 21 = .ok (.invokestatic 53, 3) := by decide +kernel
theorem dX5_digit_24 : decode cX5_digit 24 = .ok (.ifCond .ne 6, 3) := by decide +kernel
theorem dX5_digit_27 : decode cX5_digit 27 = .ok (.bipush (-9), 2) := by decide +kernel
theorem dX5_digit_29 : decode cX5_digit 29 = .ok (.ireturn, 1) := by decide +kernel
theorem dX5_digit_30 : decode cX5_digit 30 = .ok (.aload_n 0, 1) := by decide +kernel
theorem dX5_digit_31 : decode cX5_digit 31 = .ok (.dup, 1) := by decide +kernel
theorem dX5_digit_32 : decode cX5_digit 32 = .ok (.getfield 60, 3) := by decide +kernel
theorem dX5_digit_35 : decode cX5_digit 35 = .ok (.iconst 1, 1) := by decide +kernel
theorem dX5_digit_36 : decode cX5_digit 36 = .ok (.iadd, 1) := by decide +kernel
theorem dX5_digit_37 : decode cX5_digit 37 = .ok (.putfield 60, 3) := by decide +kernel
theorem dX5_digit_40 : decode cX5_digit 40 = .ok (.aload_n 0, 1) := by decide +kernel
theorem dX5_digit_41 : decode cX5_digit 41 = .ok (.getfield 16, 3) := by decide +kernel
theorem dX5_digit_44 : decode cX5_digit 44 = .ok (.aload_n 0, 1) := by decide +kernel
theorem dX5_digit_45 : decode cX5_digit 45 = .ok (.getfield 60, 3) := by decide +kernel
theorem dX5_digit_48 : decode cX5_digit 48 = .ok (.iconst 1, 1) := by decide +kernel
theorem dX5_digit_49 : decode cX5_digit 49 = .ok (.isub, 1) := by decide +kernel
theorem dX5_digit_50 : decode cX5_digit 50 = .ok (.iaload, 1) := by decide +kernel
theorem dX5_digit_51 : decode cX5_digit 51 = .ok (.bipush 48, 2) := by decide +kernel
theorem dX5_digit_53 : decode cX5_digit 53 = .ok (.isub, 1) := by decide +kernel
theorem dX5_digit_54 : decode cX5_digit 54 = .ok (.ireturn, 1) := by decide +kernel
theorem dX5_isSign_0 : decode cX5_isSign 0 = .ok (.aload_n 0, 1) := by decide +kernel
theorem dX5_isSign_1 : decode cX5_isSign 1 = .ok (.getfield 60, 3) := by decide +kernel
theorem dX5_isSign_4 : decode cX5_isSign 4 = .ok (.iload_n 1, 1) := by decide +kernel
theorem dX5_isSign_5 : decode cX5_isSign 5 = .ok (.if_icmp .ge 16, 3) := by decide +kernel
theorem dX5_isSign_8 : decode cX5_isSign 8 = .ok (.aload_n 0, 1) := by decide +kernel
theorem dX5_isSign_9 : decode cX5_isSign 9 = .ok (.getfield 16, 3) := by decide +kernel
theorem dX5_isSign_12 : decode cX5_isSign 12 = .ok (.aload_n 0, 1) := by decide +kernel
theorem dX5_isSign_13 : decode cX5_isSign 13 = .ok (.getfield 60, 3) := by decide +kernel
theorem dX5_isSign_16 : decode cX5_isSign 16 = .ok (.iaload, 1) := by decide +kernel
theorem dX5_isSign_17 : decode cX5_isSign 17 = .ok (.iload_n 2, 1) := by decide +kernel
theorem dX5_isSign_18 : decode cX5_isSign 18 = .ok (.if_icmp .eq 5, 3) := by decide +kernel
theorem dX5_isSign_21 : decode cX5_isSign 21 = .ok (.iconst 0, 1) := by decide +kernel
theorem dX5_isSign_22 : decode cX5_isSign 22 = .ok (.ireturn, 1) := by decide +kernel
theorem dX5_isSign_23 : decode cX5_isSign 23 = .ok (.aload_n 0, 1) := by decide +kernel
theorem dX5_isSign_24 : decode cX5_isSign 24 = .ok (.dup, 1) := by decide +kernel
theorem dX5_isSign_25 : decode cX5_isSign 25 = .ok (.getfield 60, 3) := by decide +kernel
theorem dX5_isSign_28 : decode cX5_isSign 28 = .ok (.iconst 1, 1) := by decide +kernel
theorem dX5_isSign_29 : decode cX5_isSign 29 = .ok (.iadd, 1) := by decide +kernel
theorem dX5_isSign_30 : decode cX5_isSign 30 = .ok (.putfield 60, 3) := by decide +kernel
theorem dX5_isSign_33 : decode cX5_isSign 33 = .ok (.iconst 1, 1) := by decide +kernel
theorem dX5_isSign_34 : decode cX5_isSign 34 = .ok (.ireturn, 1) := by decide +kernel
set_option maxRecDepth 20000 in
theorem ggX5_coast_X5_isSheet : GoodIn wsX5_coast wsX5_isSheet := goodIn_r _ [15, 16, 17, 14, 18] (by decide +kernel) (by decide +kernel)
set_option maxRecDepth 20000 in
theorem gX5_coast_X5_isSheet : GoodIn wsX5_coast (va_wsS RX5 63 yX5_isSheet wsX5_isSheet) := goodIn_app (goodIn_of _ (by decide +kernel)) ggX5_coast_X5_isSheet
set_option maxRecDepth 20000 in
theorem ggX5_coast_X5_isSort : GoodIn wsX5_coast wsX5_isSort := goodIn_r _ [21, 16, 17, 14, 18] (by decide +kernel) (by decide +kernel)
set_option maxRecDepth 20000 in
theorem gX5_coast_X5_isSort : GoodIn wsX5_coast (va_wsS RX5 67 yX5_isSort wsX5_isSort) := goodIn_app (goodIn_of _ (by decide +kernel)) ggX5_coast_X5_isSort
set_option maxRecDepth 20000 in
theorem ggX5_coast_X5_against : GoodIn wsX5_coast wsX5_against := goodIn_r _ [25, 26, 27, 49, 50, 51, 52, 53, 54, 55, 56, 57, 58, 59, 60, 61, 62, 63, 64, 65, 66, 67, 68, 69, 70, 71] (by decide +kernel) (by decide +kernel)
set_option maxRecDepth 20000 in
theorem gX5_coast_X5_against : GoodIn wsX5_coast (wsV RX5 70 RX5 yX5_against wsX5_against) := goodIn_app (goodIn_of _ (by decide +kernel)) ggX5_coast_X5_against
set_option maxRecDepth 20000 in
theorem ggX5_coast_X5_fails : GoodIn wsX5_coast wsX5_fails := goodIn_r _ [31, 1, 49, 50, 51, 52, 53, 54, 55, 56, 57, 58, 59, 60, 61, 62, 63, 64, 65, 66, 67, 68, 69, 70, 71] (by decide +kernel) (by decide +kernel)
set_option maxRecDepth 20000 in
theorem gX5_coast_X5_fails : GoodIn wsX5_coast (wsV RX5 74 RX5 yX5_fails wsX5_fails) := goodIn_app (goodIn_of _ (by decide +kernel)) ggX5_coast_X5_fails
set_option maxRecDepth 20000 in
theorem ggX5_coast_X5_readCoast : GoodIn wsX5_coast wsX5_readCoast := goodIn_r _ [35, 5, 3, 2, 36, 37, 38, 14, 39, 40, 41, 42, 43, 44, 16, 17, 18, 45, 46, 47, 48, 8, 10, 49, 50, 51, 52, 53, 54, 55, 56, 57, 58, 59, 60, 61, 62, 63, 64, 65, 66, 67, 68, 69, 70, 71] (by decide +kernel) (by decide +kernel)
set_option maxRecDepth 20000 in
theorem gX5_coast_X5_readCoast : GoodIn wsX5_coast (wsV RX5 78 RX5 yX5_readCoast wsX5_readCoast) := goodIn_app (goodIn_of _ (by decide +kernel)) ggX5_coast_X5_readCoast
theorem dX5_coast_0 : decode cX5_coast 0 = .ok (.aload_n 0, 1) := by decide +kernel
theorem dX5_coast_1 : decode cX5_coast 1 = .ok (.iconst 0, 1) := by decide +kernel
theorem dX5_coast_2 : decode cX5_coast 2 = .ok (.putfield 47, 3) := by decide +kernel
theorem dX5_coast_5 : decode cX5_coast 5 = .ok (.iload_n 1, 1) := by decide +kernel
theorem dX5_coast_6 : decode cX5_coast 6 = .ok (.invokestatic 63, 3) := by decide +kernel
theorem dX5_coast_9 : decode cX5_coast 9 = .ok (.ifCond .ne 5, 3) := by decide +kernel
theorem dX5_coast_12 : decode cX5_coast 12 = .ok (.iconst (-1), 1) := by decide +kernel
theorem dX5_coast_13 : decode cX5_coast 13 = .ok (.ireturn, 1) := by decide +kernel
theorem dX5_coast_14 : decode cX5_coast 14 = .ok (.iload_n 2, 1) := by decide +kernel
theorem dX5_coast_15 : decode cX5_coast 15 = .ok (.invokestatic 67, 3) := by decide +kernel
theorem dX5_coast_18 : decode cX5_coast 18 = .ok (.ifCond .ne 6, 3) := by decide +kernel
theorem dX5_coast_21 : decode cX5_coast 21 = .ok (.bipush (-2), 2) := by decide +kernel
theorem dX5_coast_23 : decode cX5_coast 23 = .ok (.ireturn, 1) := by decide +kernel
theorem dX5_coast_24 : decode cX5_coast 24 = .ok (.aload_n 0, 1) := by decide +kernel
theorem dX5_coast_25 : decode cX5_coast 25 = .ok (.iload_n 1, 1) := by decide +kernel
theorem dX5_coast_26 : decode cX5_coast 26 = .ok (.iload_n 2, 1) := by decide +kernel
theorem dX5_coast_27 : decode cX5_coast 27 = .ok (.iload_n 3, 1) := by decide +kernel
theorem dX5_coast_28 : decode cX5_coast 28 = .ok (.iload 4, 2) := by decide +kernel
theorem dX5_coast_30 : decode cX5_coast 30 = .ok (.invokevirtual 70, 3) := by decide +kernel
theorem dX5_coast_33 : decode cX5_coast 33 = .ok (.istore 5, 2) := by decide +kernel
theorem dX5_coast_35 : decode cX5_coast 35 = .ok (.iload 5, 2) := by decide +kernel
theorem dX5_coast_37 : decode cX5_coast 37 = .ok (.ifCond .eq 10, 3) := by decide +kernel
theorem dX5_coast_40 : decode cX5_coast 40 = .ok (.aload_n 0, 1) := by decide +kernel
theorem dX5_coast_41 : decode cX5_coast 41 = .ok (.iload 5, 2) := by decide +kernel
theorem dX5_coast_43 : decode cX5_coast 43 = .ok (.invokevirtual 74, 3) := by decide +kernel
theorem dX5_coast_46 : decode cX5_coast 46 = .ok (.ireturn, 1) := by decide +kernel
theorem dX5_coast_47 : decode cX5_coast 47 = .ok (.bipush 60, 2) := by decide +kernel
theorem dX5_coast_49 : decode cX5_coast 49 = .ok (.iload_n 1, 1) := by decide +kernel
theorem dX5_coast_50 : decode cX5_coast 50 = .ok (.imul, 1) := by decide +kernel
theorem dX5_coast_51 : decode cX5_coast 51 = .ok (.iload_n 3, 1) := by decide +kernel
theorem dX5_coast_52 : decode cX5_coast 52 = .ok (.iadd, 1) := by decide +kernel
theorem dX5_coast_53 : decode cX5_coast 53 = .ok (.istore 6, 2) := by decide +kernel
theorem dX5_coast_55 : decode cX5_coast 55 = .ok (.aload_n 0, 1) := by decide +kernel
theorem dX5_coast_56 : decode cX5_coast 56 = .ok (.iload 6, 2) := by decide +kernel
theorem dX5_coast_58 : decode cX5_coast 58 = .ok (.putfield 60, 3) := by decide +kernel
theorem dX5_coast_61 : decode cX5_coast 61 = .ok (.aload_n 0, 1) := by decide +kernel
theorem dX5_coast_62 : decode cX5_coast 62 = .ok (.iload 6, 2) := by decide +kernel
theorem dX5_coast_64 : decode cX5_coast 64 = .ok (.iload 4, 2) := by decide +kernel
theorem dX5_coast_66 : decode cX5_coast 66 = .ok (.iadd, 1) := by decide +kernel
theorem dX5_coast_67 : decode cX5_coast 67 = .ok (.invokevirtual 78, 3) := by decide +kernel
theorem dX5_coast_70 : decode cX5_coast 70 = .ok (.ifCond .ne 14, 3) := by decide +kernel
theorem dX5_coast_73 : decode cX5_coast 73 = .ok (.bipush (-100), 2) := by decide +kernel
theorem dX5_coast_75 : decode cX5_coast 75 = .ok (.aload_n 0, 1) := by decide +kernel
theorem dX5_coast_76 : decode cX5_coast 76 = .ok (.getfield 60, 3) := by decide +kernel
theorem dX5_coast_79 : decode cX5_coast 79 = .ok (.iload 6, 2) := by decide +kernel
theorem dX5_coast_81 : decode cX5_coast 81 = .ok (.isub, 1) := by decide +kernel
theorem dX5_coast_82 : decode cX5_coast 82 = .ok (.isub, 1) := by decide +kernel
theorem dX5_coast_83 : decode cX5_coast 83 = .ok (.ireturn, 1) := by decide +kernel
theorem dX5_coast_84 : decode cX5_coast 84 = .ok (.aload_n 0, 1) := by decide +kernel
theorem dX5_coast_85 : decode cX5_coast 85 = .ok (.aload_n 0, 1) := by decide +kernel
theorem dX5_coast_86 : decode cX5_coast 86 = .ok (.getfield 81, 3) := by decide +kernel
theorem dX5_coast_89 : decode cX5_coast 89 = .ok (.putfield 84, 3) := by decide +kernel
theorem dX5_coast_92 : decode cX5_coast 92 = .ok (.aload_n 0, 1) := by decide +kernel
theorem dX5_coast_93 : decode cX5_coast 93 = .ok (.aload_n 0, 1) := by decide +kernel
theorem dX5_coast_94 : decode cX5_coast 94 = .ok (.getfield 87, 3) := by decide +kernel
theorem dX5_coast_97 : decode cX5_coast 97 = .ok (.putfield 57, 3) := by decide +kernel
theorem dX5_coast_100 : decode cX5_coast 100 = .ok (.iconst 0, 1) := by decide +kernel
theorem dX5_coast_101 : decode cX5_coast 101 = .ok (.istore 7, 2) := by decide +kernel
theorem dX5_coast_103 : decode cX5_coast 103 = .ok (.iload 7, 2) := by decide +kernel
theorem dX5_coast_105 : decode cX5_coast 105 = .ok (.aload_n 0, 1) := by decide +kernel
theorem dX5_coast_106 : decode cX5_coast 106 = .ok (.getfield 57, 3) := by decide +kernel
theorem dX5_coast_109 : decode cX5_coast 109 = .ok (.if_icmp .ge 62, 3) := by decide +kernel
theorem dX5_coast_112 : decode cX5_coast 112 = .ok (.aload_n 0, 1) := by decide +kernel
theorem dX5_coast_113 : decode cX5_coast 113 = .ok (.getfield 19, 3) := by decide +kernel
theorem dX5_coast_116 : decode cX5_coast 116 = .ok (.iload 7, 2) := by decide +kernel
theorem dX5_coast_118 : decode cX5_coast 118 = .ok (.aload_n 0, 1) := by decide +kernel
theorem dX5_coast_119 : decode cX5_coast 119 = .ok (.getfield 25, 3) := by decide +kernel
theorem dX5_coast_122 : decode cX5_coast 122 = .ok (.iload 7, 2) := by decide +kernel
theorem dX5_coast_124 : decode cX5_coast 124 = .ok (.iaload, 1) := by decide +kernel
theorem dX5_coast_125 : decode cX5_coast 125 = .ok (.iastore, 1) := by decide +kernel
theorem dX5_coast_126 : decode cX5_coast 126 = .ok (.iconst 0, 1) := by decide +kernel
theorem dX5_coast_127 : decode cX5_coast 127 = .ok (.istore 8, 2) := by decide +kernel
theorem dX5_coast_129 : decode cX5_coast 129 = .ok (.iload 8, 2) := by decide +kernel
theorem dX5_coast_131 : decode cX5_coast 131 = .ok (.iconst 3, 1) := by decide +kernel
theorem dX5_coast_132 : decode cX5_coast 132 = .ok (.if_icmp .ge 33, 3) := by decide +kernel
theorem dX5_coast_135 : decode cX5_coast 135 = .ok (.aload_n 0, 1) := by decide +kernel
theorem dX5_coast_136 : decode cX5_coast 136 = .ok (.getfield 22, 3) := by decide +kernel
theorem dX5_coast_139 : decode cX5_coast 139 = .ok (.iconst 3, 1) := by decide +kernel
theorem dX5_coast_140 : decode cX5_coast 140 = .ok (.iload 7, 2) := by decide +kernel
theorem dX5_coast_142 : decode cX5_coast 142 = .ok (.imul, 1) := by decide +kernel
theorem dX5_coast_143 : decode cX5_coast 143 = .ok (.iload 8, 2) := by decide +kernel
theorem dX5_coast_145 : decode cX5_coast 145 = .ok (.iadd, 1) := by decide +kernel
theorem dX5_coast_146 : decode cX5_coast 146 = .ok (.aload_n 0, 1) := by decide +kernel
theorem dX5_coast_147 : decode cX5_coast 147 = .ok (.getfield 28, 3) := by decide +kernel
theorem dX5_coast_150 : decode cX5_coast 150 = .ok (.iconst 3, 1) := by decide +kernel
theorem dX5_coast_151 : decode cX5_coast 151 = .ok (.iload 7, 2) := by decide +kernel
theorem dX5_coast_153 : decode cX5_coast 153 = .ok (.imul, 1) := by decide +kernel
theorem dX5_coast_154 : decode cX5_coast 154 = .ok (.iload 8, 2) := by decide +kernel
theorem dX5_coast_156 : decode cX5_coast 156 = .ok (.iadd, 1) := by decide +kernel
theorem dX5_coast_157 : decode cX5_coast 157 = .ok (.iaload, 1) := by decide +kernel
theorem dX5_coast_158 : decode cX5_coast 158 = .ok (.iastore, 1) := by decide +kernel
theorem dX5_coast_159 : decode cX5_coast 159 = .ok (.iinc 8 1, 3) := by decide +kernel
theorem dX5_coast_162 : decode cX5_coast 162 = .ok (.goto (-33), 3) := by decide +kernel
theorem dX5_coast_165 : decode cX5_coast 165 = .ok (.iinc 7 1, 3) := by decide +kernel
theorem dX5_coast_168 : decode cX5_coast 168 = .ok (.goto (-65), 3) := by decide +kernel
theorem dX5_coast_171 : decode cX5_coast 171 = .ok (.aload_n 0, 1) := by decide +kernel
theorem dX5_coast_172 : decode cX5_coast 172 = .ok (.iconst 0, 1) := by decide +kernel
theorem dX5_coast_173 : decode cX5_coast 173 = .ok (.putfield 90, 3) := by decide +kernel
theorem dX5_coast_176 : decode cX5_coast 176 = .ok (.aload_n 0, 1) := by decide +kernel
theorem dX5_coast_177 : decode cX5_coast 177 = .ok (.getfield 57, 3) := by decide +kernel
theorem dX5_coast_180 : decode cX5_coast 180 = .ok (.ireturn, 1) := by decide +kernel
set_option maxRecDepth 20000 in
theorem ggX5_readCoast_X5_isSign : GoodIn wsX5_readCoast wsX5_isSign := goodIn_r _ [8, 3, 9, 23, 24, 25, 26, 27, 28, 29, 30, 31, 32, 33, 34, 35, 36, 37, 38, 39, 40, 41, 42, 43, 44, 45] (by decide +kernel) (by decide +kernel)
set_option maxRecDepth 20000 in
theorem gX5_readCoast_X5_isSign : GoodIn wsX5_readCoast (wsV RX5 93 RX5 yX5_isSign wsX5_isSign) := goodIn_app (goodIn_of _ (by decide +kernel)) ggX5_readCoast_X5_isSign
set_option maxRecDepth 20000 in
theorem ggX5_readCoast_X5_digit : GoodIn wsX5_readCoast wsX5_digit := goodIn_r _ [13, 3, 9, 14, 15, 7, 16, 23, 24, 25, 26, 27, 28, 29, 30, 31, 32, 33, 34, 35, 36, 37, 38, 39, 40, 41, 42, 43, 44, 45] (by decide +kernel) (by decide +kernel)
set_option maxRecDepth 20000 in
theorem gX5_readCoast_X5_digit : GoodIn wsX5_readCoast (wsV RX5 97 RX5 yX5_digit wsX5_digit) := goodIn_app (goodIn_of _ (by decide +kernel)) ggX5_readCoast_X5_digit
set_option maxRecDepth 20000 in
theorem ggX5_readCoast_X5_readPass : GoodIn wsX5_readCoast wsX5_readPass := goodIn_r _ [20, 3, 9, 21, 1, 22, 10, 11, 12, 7, 13, 14, 15, 16, 23, 24, 25, 26, 27, 28, 29, 30, 31, 32, 33, 34, 35, 36, 37, 38, 39, 40, 41, 42, 43, 44, 45] (by decide +kernel) (by decide +kernel)
set_option maxRecDepth 20000 in
theorem gX5_readCoast_X5_readPass : GoodIn wsX5_readCoast (wsV RX5 100 RX5 yX5_readPass wsX5_readPass) := goodIn_app (goodIn_of _ (by decide +kernel)) ggX5_readCoast_X5_readPass
theorem dX5_readCoast_0 : decode cX5_readCoast 0 = .ok (.aload_n 0, 1) := by decide +kernel
theorem dX5_readCoast_1 : decode cX5_readCoast 1 = .ok (.iconst 0, 1) := by decide +kernel
theorem dX5_readCoast_2 : decode cX5_readCoast 2 = .ok (.putfield 87, 3) := by decide +kernel
theorem dX5_readCoast_5 : decode cX5_readCoast 5 = .ok (.aload_n 0, 1) := by decide +kernel
theorem dX5_readCoast_6 : decode cX5_readCoast 6 = .ok (.iload_n 1, 1) := by decide +kernel
theorem dX5_readCoast_7 : decode cX5_readCoast 7 = .ok (.bipush 101, 2) := by decide +kernel
theorem dX5_readCoast_9 : decode cX5_readCoast 9 = .ok (.invokevirtual 93, 3) := by decide +kernel
theorem dX5_readCoast_12 : decode cX5_readCoast 12 = .ok (.ifCond .ne 5, 3) := by decide +kernel
theorem dX5_readCoast_15 : decode cX5_readCoast 15 = .ok (.iconst 0, 1) := by decide +kernel
theorem dX5_readCoast_16 : decode cX5_readCoast 16 = .ok (.ireturn, 1) := by decide +kernel
theorem dX5_readCoast_17 : decode cX5_readCoast 17 = .ok (.aload_n 0, 1) := by decide +kernel
theorem dX5_readCoast_18 : decode cX5_readCoast 18 = .ok (.aload_n 0, 1) := by decide +kernel
theorem dX5_readCoast_19 : decode cX5_readCoast 19 = .ok (.iload_n 1, 1) := by decide +kernel
theorem dX5_readCoast_20 : decode cX5_readCoast 20 = .ok (.invokevirtual 97, 3) := by decide +kernel
theorem dX5_readCoast_23 : decode cX5_readCoast 23 = .ok (.putfield 81, 3) := by decide +kernel
theorem dX5_readCoast_26 : decode cX5_readCoast 26 = .ok (.aload_n 0, 1) := by decide +kernel
theorem dX5_readCoast_27 : decode cX5_readCoast 27 = .ok (.getfield 81, 3) := by decide +kernel
theorem dX5_readCoast_30 : decode cX5_readCoast 30 = .ok (.bipush (-9), 2) := by decide +kernel
theorem dX5_readCoast_32 : decode cX5_readCoast 32 = .ok (.if_icmp .ne 5, 3) := by decide +kernel
theorem dX5_readCoast_35 : decode cX5_readCoast 35 = .ok (.iconst 0, 1) := by decide +kernel
theorem dX5_readCoast_36 : decode cX5_readCoast 36 = .ok (.ireturn, 1) := by decide +kernel
theorem dX5_readCoast_37 : decode cX5_readCoast 37 = .ok (.aload_n 0, 1) := by decide +kernel
theorem dX5_readCoast_38 : decode cX5_readCoast 38 = .ok (.getfield 87, 3) := by decide +kernel
theorem dX5_readCoast_41 : decode cX5_readCoast 41 = .ok (.iconst 2, 1) := by decide +kernel
theorem dX5_readCoast_42 : decode cX5_readCoast 42 = .ok (.if_icmp .lt 20, 3) := by decide +kernel
theorem dX5_readCoast_45 : decode cX5_readCoast 45 = .ok (.aload_n 0, 1) := by decide +kernel
theorem dX5_readCoast_46 : decode cX5_readCoast 46 = .ok (.getfield 87, 3) := by decide +kernel
theorem dX5_readCoast_49 : decode cX5_readCoast 49 = .ok (.bipush 6, 2) := by decide +kernel
theorem dX5_readCoast_51 : decode cX5_readCoast 51 = .ok (.if_icmp .ge 31, 3) := by decide +kernel
theorem dX5_readCoast_54 : decode cX5_readCoast 54 = .ok (.aload_n 0, 1) := by decide +kernel
theorem dX5_readCoast_55 : decode cX5_readCoast 55 = .ok (.getfield 60, 3) := by decide +kernel
theorem dX5_readCoast_58 : decode cX5_readCoast 58 = .ok (.iload_n 1, 1) := by decide +kernel
theorem dX5_readCoast_59 : decode cX5_readCoast 59 = .ok (.if_icmp .ge 23, 3) := by decide +kernel
theorem dX5_readCoast_62 : decode cX5_readCoast 62 = .ok (.aload_n 0, 1) := by decide +kernel
theorem dX5_readCoast_63 : decode cX5_readCoast 63 = .ok (.iload_n 1, 1) := by decide +kernel
theorem dX5_readCoast_64 : decode cX5_readCoast 64 = .ok (.bipush 59, 2) := by decide +kernel
theorem dX5_readCoast_66 : decode cX5_readCoast 66 = .ok (.invokevirtual 93, 3) := by decide +kernel
theorem dX5_readCoast_69 : decode cX5_readCoast 69 = .ok (.ifCond .eq 11, 3) := by decide +kernel
theorem dX5_readCoast_72 : decode cX5_readCoast 72 = .ok (.aload_n 0, 1) := by decide +kernel
theorem dX5_readCoast_73 : decode cX5_readCoast 73 = .ok (.iload_n 1, 1) := by decide +kernel
theorem dX5_readCoast_74 : decode cX5_readCoast 74 = .ok (.invokevirtual 100, 3) := by decide +kernel
theorem dX5_readCoast_77 : decode cX5_readCoast 77 = .ok (.ifCond .ne (-40), 3) := by decide +kernel
theorem dX5_readCoast_80 : decode cX5_readCoast 80 = .ok (.iconst 0, 1) := by decide +kernel
theorem dX5_readCoast_81 : decode cX5_readCoast 81 = .ok (.ireturn, 1) := by decide +kernel
theorem dX5_readCoast_82 : decode cX5_readCoast 82 = .ok (.aload_n 0, 1) := by decide +kernel
theorem dX5_readCoast_83 : decode cX5_readCoast 83 = .ok (.getfield 60, 3) := by decide +kernel
theorem dX5_readCoast_86 : decode cX5_readCoast 86 = .ok (.iload_n 1, 1) := by decide +kernel
theorem dX5_readCoast_87 : decode cX5_readCoast 87 = .ok (.if_icmp .ne 7, 3) := by decide +kernel
theorem dX5_readCoast_90 : decode cX5_readCoast 90 = .ok (.iconst 1, 1) := by decide +kernel
theorem dX5_readCoast_91 : decode cX5_readCoast 91 = .ok (.goto 4, 3) := by decide +kernel
theorem dX5_readCoast_94 : decode cX5_readCoast 94 = .ok (.iconst 0, 1) := by decide +kernel
theorem dX5_readCoast_95 : decode cX5_readCoast 95 = .ok (.ireturn, 1) := by decide +kernel
set_option maxRecDepth 20000 in
theorem ggX5_readPass_X5_digit : GoodIn wsX5_readPass wsX5_digit := goodIn_r _ [10, 1, 2, 11, 12, 9, 13, 14, 15, 16, 17, 18, 19, 20, 21, 22, 23, 24, 25, 26, 27, 28, 29, 30, 31, 32, 33, 34, 35, 36] (by decide +kernel) (by decide +kernel)
set_option maxRecDepth 20000 in
theorem gX5_readPass_X5_digit : GoodIn wsX5_readPass (wsV RX5 97 RX5 yX5_digit wsX5_digit) := goodIn_app (goodIn_of _ (by decide +kernel)) ggX5_readPass_X5_digit
theorem dX5_readPass_0 : decode cX5_readPass 0 = .ok (.aload_n 0, 1) := by decide +kernel
theorem dX5_readPass_1 : decode cX5_readPass 1 = .ok (.getfield 60, 3) := by decide +kernel
theorem dX5_readPass_4 : decode cX5_readPass 4 = .ok (.iload_n 1, 1) := by decide +kernel
theorem dX5_readPass_5 : decode cX5_readPass 5 = .ok (.if_icmp .ge 15, 3) := by decide +kernel
theorem dX5_readPass_8 : decode cX5_readPass 8 = .ok (.aload_n 0, 1) := by decide +kernel
theorem dX5_readPass_9 : decode cX5_readPass 9 = .ok (.getfield 16, 3) := by decide +kernel
theorem dX5_readPass_12 : decode cX5_readPass 12 = .ok (.aload_n 0, 1) := by decide +kernel
theorem dX5_readPass_13 : decode cX5_readPass 13 = .ok (.getfield 60, 3) := by decide +kernel
theorem dX5_readPass_16 : decode cX5_readPass 16 = .ok (.iaload, 1) := by decide +kernel
theorem dX5_readPass_17 : decode cX5_readPass 17 = .ok (.goto 4, 3) := by decide +kernel
theorem dX5_readPass_20 : decode cX5_readPass 20 = .ok (.iconst 0, 1) := by decide +kernel
theorem dX5_readPass_21 : decode cX5_readPass 21 = .ok (.istore_n 2, 1) := by decide +kernel
theorem dX5_readPass_22 : decode cX5_readPass 22 = .ok (.aload_n 0, 1) := by decide +kernel
theorem dX5_readPass_23 : decode cX5_readPass 23 = .ok (.getfield 25, 3) := by decide +kernel
theorem dX5_readPass_26 : decode cX5_readPass 26 = .ok (.aload_n 0, 1) := by decide +kernel
theorem dX5_readPass_27 : decode cX5_readPass 27 = .ok (.getfield 87, 3) := by decide +kernel
theorem dX5_readPass_30 : decode cX5_readPass 30 = .ok (.iload_n 2, 1) := by decide +kernel
theorem dX5_readPass_31 : decode cX5_readPass 31 = .ok (.bipush 112, 2) := by decide +kernel
theorem dX5_readPass_33 : decode cX5_readPass 33 = .ok (.if_icmp .ne 7, 3) := by decide +kernel
theorem dX5_readPass_36 : decode cX5_readPass 36 = .ok (.iconst 0, 1) := by decide +kernel
theorem dX5_readPass_37 : decode cX5_readPass 37 = .ok (.goto 25, 3) := by decide +kernel
theorem dX5_readPass_40 : decode cX5_readPass 40 = .ok (.iload_n 2, 1) := by decide +kernel
theorem dX5_readPass_41 : decode cX5_readPass 41 = .ok (.bipush 108, 2) := by decide +kernel
theorem dX5_readPass_43 : decode cX5_readPass 43 = .ok (.if_icmp .ne 7, 3) := by decide +kernel
theorem dX5_readPass_46 : decode cX5_readPass 46 = .ok (.iconst 1, 1) := by decide +kernel
theorem dX5_readPass_47 : decode cX5_readPass 47 = .ok (.goto 15, 3) := by decide +kernel
theorem dX5_readPass_50 : decode cX5_readPass 50 = .ok (.iload_n 2, 1) := by decide +kernel
theorem dX5_readPass_51 : decode cX5_readPass 51 = .ok (.bipush 100, 2) := by decide +kernel
theorem dX5_readPass_53 : decode cX5_readPass 53 = .ok (.if_icmp .ne 7, 3) := by decide +kernel
theorem dX5_readPass_56 : decode cX5_readPass 56 = .ok (.iconst 2, 1) := by decide +kernel
theorem dX5_readPass_57 : decode cX5_readPass 57 = .ok (.goto 5, 3) := by decide +kernel
theorem dX5_readPass_60 : decode cX5_readPass 60 = .ok (.bipush (-9), 2) := by decide +kernel
theorem dX5_readPass_62 : decode cX5_readPass 62 = .ok (.iastore, 1) := by decide +kernel
theorem dX5_readPass_63 : decode cX5_readPass 63 = .ok (.aload_n 0, 1) := by decide +kernel
theorem dX5_readPass_64 : decode cX5_readPass 64 = .ok (.getfield 25, 3) := by decide +kernel
theorem dX5_readPass_67 : decode cX5_readPass 67 = .ok (.aload_n 0, 1) := by decide +kernel
theorem dX5_readPass_68 : decode cX5_readPass 68 = .ok (.getfield 87, 3) := by decide +kernel
theorem dX5_readPass_71 : decode cX5_readPass 71 = .ok (.iaload, 1) := by decide +kernel
theorem dX5_readPass_72 : decode cX5_readPass 72 = .ok (.bipush (-9), 2) := by decide +kernel
theorem dX5_readPass_74 : decode cX5_readPass 74 = .ok (.if_icmp .ne 5, 3) := by decide +kernel
theorem dX5_readPass_77 : decode cX5_readPass 77 = .ok (.iconst 0, 1) := by decide +kernel
theorem dX5_readPass_78 : decode cX5_readPass 78 = .ok (.ireturn, 1) := by decide +kernel
theorem dX5_readPass_79 : decode cX5_readPass 79 = .ok (.aload_n 0, 1) := by decide +kernel
theorem dX5_readPass_80 : decode cX5_readPass 80 = .ok (.dup, 1) := by decide +kernel
theorem dX5_readPass_81 : decode cX5_readPass 81 = .ok (.getfield 60, 3) := by decide +kernel
theorem dX5_readPass_84 : decode cX5_readPass 84 = .ok (.iconst 1, 1) := by decide +kernel
theorem dX5_readPass_85 : decode cX5_readPass 85 = .ok (.iadd, 1) := by decide +kernel
theorem dX5_readPass_86 : decode cX5_readPass 86 = .ok (.putfield 60, 3) := by decide +kernel
theorem dX5_readPass_89 : decode cX5_readPass 89 = .ok (.iconst 0, 1) := by decide +kernel
theorem dX5_readPass_90 : decode cX5_readPass 90 = .ok (.istore_n 3, 1) := by decide +kernel
theorem dX5_readPass_91 : decode cX5_readPass 91 = .ok (.iload_n 3, 1) := by decide +kernel
theorem dX5_readPass_92 : decode cX5_readPass 92 = .ok (.iconst 3, 1) := by decide +kernel
theorem dX5_readPass_93 : decode cX5_readPass 93 = .ok (.if_icmp .ge 47, 3) := by decide +kernel
theorem dX5_readPass_96 : decode cX5_readPass 96 = .ok (.aload_n 0, 1) := by decide +kernel
theorem dX5_readPass_97 : decode cX5_readPass 97 = .ok (.getfield 28, 3) := by decide +kernel
theorem dX5_readPass_100 : decode cX5_readPass 100 = .ok (.iconst 3, 1) := by decide +kernel
theorem dX5_readPass_101 : decode cX5_readPass 101 = .ok (.aload_n 0, 1) := by decide +kernel
theorem dX5_readPass_102 : decode cX5_readPass 102 = .ok (.getfield 87, 3) := by decide +kernel
theorem dX5_readPass_105 : decode cX5_readPass 105 = .ok (.imul, 1) := by decide +kernel
theorem dX5_readPass_106 : decode cX5_readPass 106 = .ok (.iload_n 3, 1) := by decide +kernel
theorem dX5_readPass_107 : decode cX5_readPass 107 = .ok (.iadd, 1) := by decide +kernel
theorem dX5_readPass_108 : decode cX5_readPass 108 = .ok (.aload_n 0, 1) := by decide +kernel
theorem dX5_readPass_109 : decode cX5_readPass 109 = .ok (.iload_n 1, 1) := by decide +kernel
theorem dX5_readPass_110 : decode cX5_readPass 110 = .ok (.invokevirtual 97, 3) := by decide +kernel
theorem dX5_readPass_113 : decode cX5_readPass 113 = .ok (.iastore, 1) := by decide +kernel
theorem dX5_readPass_114 : decode cX5_readPass 114 = .ok (.aload_n 0, 1) := by decide +kernel
theorem dX5_readPass_115 : decode cX5_readPass 115 = .ok (.getfield 28, 3) := by decide +kernel
theorem dX5_readPass_118 : decode cX5_readPass 118 = .ok (.iconst 3, 1) := by decide +kernel
theorem dX5_readPass_119 : decode cX5_readPass 119 = .ok (.aload_n 0, 1) := by decide +kernel
theorem dX5_readPass_120 : decode cX5_readPass 120 = .ok (.getfield 87, 3) := by decide +kernel
theorem dX5_readPass_123 : decode cX5_readPass 123 = .ok (.imul, 1) := by decide +kernel
theorem dX5_readPass_124 : decode cX5_readPass 124 = .ok (.iload_n 3, 1) := by decide +kernel
theorem dX5_readPass_125 : decode cX5_readPass 125 = .ok (.iadd, 1) := by decide +kernel
theorem dX5_readPass_126 : decode cX5_readPass 126 = .ok (.iaload, 1) := by decide +kernel
