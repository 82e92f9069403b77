theorem dX5_readPass_127 : decode cX5_readPass 127 = .ok (.bipush (-9), 2) := by decide +kernel
theorem dX5_readPass_129 : decode cX5_readPass 129 = .ok (.if_icmp .ne 5, 3) := by decide +kernel
theorem dX5_readPass_132 : decode cX5_readPass 132 = .ok (.iconst 0, 1) := by decide +kernel
theorem dX5_readPass_133 : decode cX5_readPass 133 = .ok (.ireturn, 1) := by decide +kernel
theorem dX5_readPass_134 : decode cX5_readPass 134 = .ok (.iinc 3 1, 3) := by decide +kernel
theorem dX5_readPass_137 : decode cX5_readPass 137 = .ok (.goto (-46), 3) := by decide +kernel
theorem dX5_readPass_140 : decode cX5_readPass 140 = .ok (.aload_n 0, 1) := by decide +kernel
theorem dX5_readPass_141 : decode cX5_readPass 141 = .ok (.dup, 1) := by decide +kernel
theorem dX5_readPass_142 : decode cX5_readPass 142 = .ok (.getfield 87, 3) := by decide +kernel
theorem dX5_readPass_145 : decode cX5_readPass 145 = .ok (.iconst 1, 1) := by decide +kernel
theorem dX5_readPass_146 : decode cX5_readPass 146 = .ok (.iadd, 1) := by decide +kernel
theorem dX5_readPass_147 : decode cX5_readPass 147 = .ok (.putfield 87, 3) := by decide +kernel
theorem dX5_readPass_150 : decode cX5_readPass 150 = .ok (.iconst 1, 1) := by decide +kernel
theorem dX5_readPass_151 : decode cX5_readPass 151 = .ok (.ireturn, 1) := by decide +kernel
set_option maxRecDepth 20000 in
theorem ggX5_ofPass_X5_isPass : GoodIn wsX5_ofPass wsX5_isPass := goodIn_r _ [7, 8, 12, 13, 14, 15, 16, 17, 18, 19, 20, 21, 22, 23, 24, 25, 26, 27, 28, 29, 30, 31, 32, 33, 34] (by decide +kernel) (by decide +kernel)
set_option maxRecDepth 20000 in
theorem gX5_ofPass_X5_isPass : GoodIn wsX5_ofPass (wsV RX5 103 RX5 yX5_isPass wsX5_isPass) := goodIn_app (goodIn_of _ (by decide +kernel)) ggX5_ofPass_X5_isPass
set_option maxRecDepth 20000 in
theorem ggX5_ofPass_X5_within : GoodIn wsX5_ofPass wsX5_within := goodIn_r _ [11] (by decide +kernel) (by decide +kernel)
set_option maxRecDepth 20000 in
theorem gX5_ofPass_X5_within : GoodIn wsX5_ofPass (va_wsS RX5 53 yX5_within wsX5_within) := goodIn_app (goodIn_of _ (by decide +kernel)) ggX5_ofPass_X5_within
theorem dX5_ofPass_0 : decode cX5_ofPass 0 = .ok (.aload_n 0, 1) := by decide +kernel
theorem dX5_ofPass_1 : decode cX5_ofPass 1 = .ok (.iload_n 1, 1) := by decide +kernel
theorem dX5_ofPass_2 : decode cX5_ofPass 2 = .ok (.invokevirtual 103, 3) := by decide +kernel
theorem dX5_ofPass_5 : decode cX5_ofPass 5 = .ok (.ifCond .ne 5, 3) := by decide +kernel
theorem dX5_ofPass_8 : decode cX5_ofPass 8 = .ok (.iconst (-1), 1) := by decide +kernel
theorem dX5_ofPass_9 : decode cX5_ofPass 9 = .ok (.ireturn, 1) := by decide +kernel
theorem dX5_ofPass_10 : decode cX5_ofPass 10 = .ok (.iload_n 2, 1) := by decide +kernel
theorem dX5_ofPass_11 : decode cX5_ofPass 11 = .ok (.ifCond .ne 12, 3) := by decide +kernel
theorem dX5_ofPass_14 : decode cX5_ofPass 14 = .ok (.aload_n 0, 1) := by decide +kernel
theorem dX5_ofPass_15 : decode cX5_ofPass 15 = .ok (.getfield 19, 3) := by decide +kernel
theorem dX5_ofPass_18 : decode cX5_ofPass 18 = .ok (.iload_n 1, 1) := by decide +kernel
theorem dX5_ofPass_19 : decode cX5_ofPass 19 = .ok (.iaload, 1) := by decide +kernel
theorem dX5_ofPass_20 : decode cX5_ofPass 20 = .ok (.goto 29, 3) := by decide +kernel
theorem dX5_ofPass_23 : decode cX5_ofPass 23 = .ok (.iload_n 2, 1) := by decide +kernel
theorem dX5_ofPass_24 : decode cX5_ofPass 24 = .ok (.iconst 1, 1) := by decide +kernel
theorem dX5_ofPass_25 : decode cX5_ofPass 25 = .ok (.iconst 3, 1) := by decide +kernel
theorem dX5_ofPass_26 : decode cX5_ofPass 26 = .ok (.invokestatic 53, 3) := by decide +kernel
theorem dX5_ofPass_29 : decode cX5_ofPass 29 = .ok (.ifCond .eq 18, 3) := by decide +kernel
theorem dX5_ofPass_32 : decode cX5_ofPass 32 = .ok (.aload_n 0, 1) := by decide +kernel
theorem dX5_ofPass_33 : decode cX5_ofPass 33 = .ok (.getfield 22, 3) := by decide +kernel
theorem dX5_ofPass_36 : decode cX5_ofPass 36 = .ok (.iconst 3, 1) := by decide +kernel
theorem dX5_ofPass_37 : decode cX5_ofPass 37 = .ok (.iload_n 1, 1) := by decide +kernel
theorem dX5_ofPass_38 : decode cX5_ofPass 38 = .ok (.imul, 1) := by decide +kernel
theorem dX5_ofPass_39 : decode cX5_ofPass 39 = .ok (.iload_n 2, 1) := by decide +kernel
theorem dX5_ofPass_40 : decode cX5_ofPass 40 = .ok (.iadd, 1) := by decide +kernel
theorem dX5_ofPass_41 : decode cX5_ofPass 41 = .ok (.iconst 1, 1) := by decide +kernel
theorem dX5_ofPass_42 : decode cX5_ofPass 42 = .ok (.isub, 1) := by decide +kernel
theorem dX5_ofPass_43 : decode cX5_ofPass 43 = .ok (.iaload, 1) := by decide +kernel
theorem dX5_ofPass_44 : decode cX5_ofPass 44 = .ok (.goto 5, 3) := by decide +kernel
theorem dX5_ofPass_47 : decode cX5_ofPass 47 = .ok (.bipush (-2), 2) := by decide +kernel
theorem dX5_ofPass_49 : decode cX5_ofPass 49 = .ok (.ireturn, 1) := by decide +kernel
set_option maxRecDepth 20000 in
theorem ggX5_trim_X5_isPass : GoodIn wsX5_trim wsX5_isPass := goodIn_r _ [6, 7, 17, 18, 19, 20, 21, 22, 23, 24, 25, 26, 27, 28, 29, 30, 31, 32, 33, 34, 35, 36, 37, 38, 39] (by decide +kernel) (by decide +kernel)
set_option maxRecDepth 20000 in
theorem gX5_trim_X5_isPass : GoodIn wsX5_trim (wsV RX5 103 RX5 yX5_isPass wsX5_isPass) := goodIn_app (goodIn_of _ (by decide +kernel)) ggX5_trim_X5_isPass
set_option maxRecDepth 20000 in
theorem ggX5_trim_X5_isPlace : GoodIn wsX5_trim wsX5_isPlace := goodIn_r _ [10, 11, 12, 5, 13] (by decide +kernel) (by decide +kernel)
set_option maxRecDepth 20000 in
theorem gX5_trim_X5_isPlace : GoodIn wsX5_trim (va_wsS RX5 106 yX5_isPlace wsX5_isPlace) := goodIn_app (goodIn_of _ (by decide +kernel)) ggX5_trim_X5_isPlace
set_option maxRecDepth 20000 in
theorem ggX5_trim_X5_isDigit : GoodIn wsX5_trim wsX5_isDigit := goodIn_r _ [16, 11, 12, 5, 13] (by decide +kernel) (by decide +kernel)
set_option maxRecDepth 20000 in
theorem gX5_trim_X5_isDigit : GoodIn wsX5_trim (va_wsS RX5 109 yX5_isDigit wsX5_isDigit) := goodIn_app (goodIn_of _ (by decide +kernel)) ggX5_trim_X5_isDigit
theorem dX5_trim_0 : decode cX5_trim 0 = .ok (.aload_n 0, 1) := by decide +kernel
theorem dX5_trim_1 : decode cX5_trim 1 = .ok (.iload_n 1, 1) := by decide +kernel
theorem dX5_trim_2 : decode cX5_trim 2 = .ok (.invokevirtual 103, 3) := by decide +kernel
theorem dX5_trim_5 : decode cX5_trim 5 = .ok (.ifCond .ne 5, 3) := by decide +kernel
theorem dX5_trim_8 : decode cX5_trim 8 = .ok (.iconst (-1), 1) := by decide +kernel
theorem dX5_trim_9 : decode cX5_trim 9 = .ok (.ireturn, 1) := by decide +kernel
theorem dX5_trim_10 : decode cX5_trim 10 = .ok (.iload_n 2, 1) := by decide +kernel
theorem dX5_trim_11 : decode cX5_trim 11 = .ok (.invokestatic 106, 3) := by decide +kernel
theorem dX5_trim_14 : decode cX5_trim 14 = .ok (.ifCond .eq 10, 3) := by decide +kernel
theorem dX5_trim_17 : decode cX5_trim 17 = .ok (.iload_n 3, 1) := by decide +kernel
theorem dX5_trim_18 : decode cX5_trim 18 = .ok (.invokestatic 109, 3) := by decide +kernel
theorem dX5_trim_21 : decode cX5_trim 21 = .ok (.ifCond .ne 6, 3) := by decide +kernel
theorem dX5_trim_24 : decode cX5_trim 24 = .ok (.bipush (-2), 2) := by decide +kernel
theorem dX5_trim_26 : decode cX5_trim 26 = .ok (.ireturn, 1) := by decide +kernel
theorem dX5_trim_27 : decode cX5_trim 27 = .ok (.aload_n 0, 1) := by decide +kernel
theorem dX5_trim_28 : decode cX5_trim 28 = .ok (.getfield 22, 3) := by decide +kernel
theorem dX5_trim_31 : decode cX5_trim 31 = .ok (.iconst 3, 1) := by decide +kernel
theorem dX5_trim_32 : decode cX5_trim 32 = .ok (.iload_n 1, 1) := by decide +kernel
theorem dX5_trim_33 : decode cX5_trim 33 = .ok (.imul, 1) := by decide +kernel
theorem dX5_trim_34 : decode cX5_trim 34 = .ok (.iload_n 2, 1) := by decide +kernel
theorem dX5_trim_35 : decode cX5_trim 35 = .ok (.iadd, 1) := by decide +kernel
theorem dX5_trim_36 : decode cX5_trim 36 = .ok (.iaload, 1) := by decide +kernel
theorem dX5_trim_37 : decode cX5_trim 37 = .ok (.istore 4, 2) := by decide +kernel
theorem dX5_trim_39 : decode cX5_trim 39 = .ok (.aload_n 0, 1) := by decide +kernel
theorem dX5_trim_40 : decode cX5_trim 40 = .ok (.getfield 22, 3) := by decide +kernel
theorem dX5_trim_43 : decode cX5_trim 43 = .ok (.iconst 3, 1) := by decide +kernel
theorem dX5_trim_44 : decode cX5_trim 44 = .ok (.iload_n 1, 1) := by decide +kernel
theorem dX5_trim_45 : decode cX5_trim 45 = .ok (.imul, 1) := by decide +kernel
theorem dX5_trim_46 : decode cX5_trim 46 = .ok (.iload_n 2, 1) := by decide +kernel
theorem dX5_trim_47 : decode cX5_trim 47 = .ok (.iadd, 1) := by decide +kernel
theorem dX5_trim_48 : decode cX5_trim 48 = .ok (.iload_n 3, 1) := by decide +kernel
theorem dX5_trim_49 : decode cX5_trim 49 = .ok (.iastore, 1) := by decide +kernel
theorem dX5_trim_50 : decode cX5_trim 50 = .ok (.iload 4, 2) := by decide +kernel
theorem dX5_trim_52 : decode cX5_trim 52 = .ok (.ireturn, 1) := by decide +kernel
set_option maxRecDepth 20000 in
theorem ggX5_slack_X5_isDigit : GoodIn wsX5_slack wsX5_isDigit := goodIn_r _ [6, 7, 8, 5, 9] (by decide +kernel) (by decide +kernel)
set_option maxRecDepth 20000 in
theorem gX5_slack_X5_isDigit : GoodIn wsX5_slack (va_wsS RX5 109 yX5_isDigit wsX5_isDigit) := goodIn_app (goodIn_of _ (by decide +kernel)) ggX5_slack_X5_isDigit
theorem dX5_slack_0 : decode cX5_slack 0 = .ok (.iload_n 1, 1) := by decide +kernel
theorem dX5_slack_1 : decode cX5_slack 1 = .ok (.invokestatic 109, 3) := by decide +kernel
theorem dX5_slack_4 : decode cX5_slack 4 = .ok (.ifCond .ne 6, 3) := by decide +kernel
theorem dX5_slack_7 : decode cX5_slack 7 = .ok (.bipush (-2), 2) := by decide +kernel
theorem dX5_slack_9 : decode cX5_slack 9 = .ok (.ireturn, 1) := by decide +kernel
theorem dX5_slack_10 : decode cX5_slack 10 = .ok (.aload_n 0, 1) := by decide +kernel
theorem dX5_slack_11 : decode cX5_slack 11 = .ok (.getfield 57, 3) := by decide +kernel
theorem dX5_slack_14 : decode cX5_slack 14 = .ok (.ifCond .ne 6, 3) := by decide +kernel
theorem dX5_slack_17 : decode cX5_slack 17 = .ok (.bipush (-3), 2) := by decide +kernel
theorem dX5_slack_19 : decode cX5_slack 19 = .ok (.ireturn, 1) := by decide +kernel
theorem dX5_slack_20 : decode cX5_slack 20 = .ok (.aload_n 0, 1) := by decide +kernel
theorem dX5_slack_21 : decode cX5_slack 21 = .ok (.getfield 84, 3) := by decide +kernel
theorem dX5_slack_24 : decode cX5_slack 24 = .ok (.istore_n 2, 1) := by decide +kernel
theorem dX5_slack_25 : decode cX5_slack 25 = .ok (.aload_n 0, 1) := by decide +kernel
theorem dX5_slack_26 : decode cX5_slack 26 = .ok (.iload_n 1, 1) := by decide +kernel
theorem dX5_slack_27 : decode cX5_slack 27 = .ok (.putfield 84, 3) := by decide +kernel
theorem dX5_slack_30 : decode cX5_slack 30 = .ok (.iload_n 2, 1) := by decide +kernel
theorem dX5_slack_31 : decode cX5_slack 31 = .ok (.ireturn, 1) := by decide +kernel
theorem dX5_lower_0 : decode cX5_lower 0 = .ok (.aload_n 0, 1) := by decide +kernel
theorem dX5_lower_1 : decode cX5_lower 1 = .ok (.getfield 19, 3) := by decide +kernel
theorem dX5_lower_4 : decode cX5_lower 4 = .ok (.iload_n 1, 1) := by decide +kernel
theorem dX5_lower_5 : decode cX5_lower 5 = .ok (.iaload, 1) := by decide +kernel
theorem dX5_lower_6 : decode cX5_lower 6 = .ok (.ifCond .ne 7, 3) := by decide +kernel
theorem dX5_lower_9 : decode cX5_lower 9 = .ok (.iload_n 3, 1) := by decide +kernel
theorem dX5_lower_10 : decode cX5_lower 10 = .ok (.goto 22, 3) := by decide +kernel
theorem dX5_lower_13 : decode cX5_lower 13 = .ok (.aload_n 0, 1) := by decide +kernel
theorem dX5_lower_14 : decode cX5_lower 14 = .ok (.getfield 19, 3) := by decide +kernel
theorem dX5_lower_17 : decode cX5_lower 17 = .ok (.iload_n 1, 1) := by decide +kernel
theorem dX5_lower_18 : decode cX5_lower 18 = .ok (.iaload, 1) := by decide +kernel
theorem dX5_lower_19 : decode cX5_lower 19 = .ok (.iconst 1, 1) := by decide +kernel
theorem dX5_lower_20 : decode cX5_lower 20 = .ok (.if_icmp .ne 9, 3) := by decide +kernel
theorem dX5_lower_23 : decode cX5_lower 23 = .ok (.iload_n 3, 1) := by decide +kernel
theorem dX5_lower_24 : decode cX5_lower 24 = .ok (.iconst 1, 1) := by decide +kernel
theorem dX5_lower_25 : decode cX5_lower 25 = .ok (.iadd, 1) := by decide +kernel
theorem dX5_lower_26 : decode cX5_lower 26 = .ok (.goto 6, 3) := by decide +kernel
theorem dX5_lower_29 : decode cX5_lower 29 = .ok (.iconst 2, 1) := by decide +kernel
theorem dX5_lower_30 : decode cX5_lower 30 = .ok (.iload_n 3, 1) := by decide +kernel
theorem dX5_lower_31 : decode cX5_lower 31 = .ok (.imul, 1) := by decide +kernel
theorem dX5_lower_32 : decode cX5_lower 32 = .ok (.istore 4, 2) := by decide +kernel
theorem dX5_lower_34 : decode cX5_lower 34 = .ok (.aload_n 0, 1) := by decide +kernel
theorem dX5_lower_35 : decode cX5_lower 35 = .ok (.getfield 22, 3) := by decide +kernel
theorem dX5_lower_38 : decode cX5_lower 38 = .ok (.iconst 3, 1) := by decide +kernel
theorem dX5_lower_39 : decode cX5_lower 39 = .ok (.iload_n 1, 1) := by decide +kernel
theorem dX5_lower_40 : decode cX5_lower 40 = .ok (.imul, 1) := by decide +kernel
theorem dX5_lower_41 : decode cX5_lower 41 = .ok (.iload_n 2, 1) := by decide +kernel
theorem dX5_lower_42 : decode cX5_lower 42 = .ok (.iadd, 1) := by decide +kernel
theorem dX5_lower_43 : decode cX5_lower 43 = .ok (.iaload, 1) := by decide +kernel
theorem dX5_lower_44 : decode cX5_lower 44 = .ok (.iload 4, 2) := by decide +kernel
theorem dX5_lower_46 : decode cX5_lower 46 = .ok (.isub, 1) := by decide +kernel
theorem dX5_lower_47 : decode cX5_lower 47 = .ok (.istore 5, 2) := by decide +kernel
theorem dX5_lower_49 : decode cX5_lower 49 = .ok (.iload 5, 2) := by decide +kernel
theorem dX5_lower_51 : decode cX5_lower 51 = .ok (.ifCond .ge 7, 3) := by decide +kernel
theorem dX5_lower_54 : decode cX5_lower 54 = .ok (.iconst 0, 1) := by decide +kernel
theorem dX5_lower_55 : decode cX5_lower 55 = .ok (.goto 5, 3) := by decide +kernel
theorem dX5_lower_58 : decode cX5_lower 58 = .ok (.iload 5, 2) := by decide +kernel
theorem dX5_lower_60 : decode cX5_lower 60 = .ok (.ireturn, 1) := by decide +kernel
set_option maxRecDepth 20000 in
theorem ggX5_worn_X5_isPass : GoodIn wsX5_worn wsX5_isPass := goodIn_r _ [5, 6, 22, 23, 24, 25, 26, 27, 28, 29, 30, 31, 32, 33, 34, 35, 36, 37, 38, 39, 40, 41, 42, 43, 44] (by decide +kernel) (by decide +kernel)
set_option maxRecDepth 20000 in
theorem gX5_worn_X5_isPass : GoodIn wsX5_worn (wsV RX5 103 RX5 yX5_isPass wsX5_isPass) := goodIn_app (goodIn_of _ (by decide +kernel)) ggX5_worn_X5_isPass
set_option maxRecDepth 20000 in
theorem ggX5_worn_X5_isPlace : GoodIn wsX5_worn wsX5_isPlace := goodIn_r _ [9, 10, 11, 4, 12] (by decide +kernel) (by decide +kernel)
set_option maxRecDepth 20000 in
theorem gX5_worn_X5_isPlace : GoodIn wsX5_worn (va_wsS RX5 106 yX5_isPlace wsX5_isPlace) := goodIn_app (goodIn_of _ (by decide +kernel)) ggX5_worn_X5_isPlace
set_option maxRecDepth 20000 in
theorem ggX5_worn_X5_isDigit : GoodIn wsX5_worn wsX5_isDigit := goodIn_r _ [15, 10, 11, 4, 12] (by decide +kernel) (by decide +kernel)
set_option maxRecDepth 20000 in
theorem gX5_worn_X5_isDigit : GoodIn wsX5_worn (va_wsS RX5 109 yX5_isDigit wsX5_isDigit) := goodIn_app (goodIn_of _ (by decide +kernel)) ggX5_worn_X5_isDigit
set_option maxRecDepth 20000 in
theorem ggX5_worn_X5_lower : GoodIn wsX5_worn wsX5_lower := goodIn_r _ [19, 20, 21, 22, 23, 24, 25, 26, 27, 28, 29, 30, 31, 32, 33, 34, 35, 36, 37, 38, 39, 40, 41, 42, 43, 44] (by decide +kernel) (by decide +kernel)
set_option maxRecDepth 20000 in
theorem gX5_worn_X5_lower : GoodIn wsX5_worn (wsV RX5 112 RX5 yX5_lower wsX5_lower) := goodIn_app (goodIn_of _ (by decide +kernel)) ggX5_worn_X5_lower
theorem dX5_worn_0 : decode cX5_worn 0 = .ok (.aload_n 0, 1) := by decide +kernel
theorem dX5_worn_1 : decode cX5_worn 1 = .ok (.iload_n 1, 1) := by decide +kernel
theorem dX5_worn_2 : decode cX5_worn 2 = .ok (.invokevirtual 103, 3) := by decide +kernel
theorem dX5_worn_5 : decode cX5_worn 5 = .ok (.ifCond .ne 5, 3) := by decide +kernel
theorem dX5_worn_8 : decode cX5_worn 8 = .ok (.iconst (-1), 1) := by decide +kernel
theorem dX5_worn_9 : decode cX5_worn 9 = .ok (.ireturn, 1) := by decide +kernel
theorem dX5_worn_10 : decode cX5_worn 10 = .ok (.iload_n 2, 1) := by decide +kernel
theorem dX5_worn_11 : decode cX5_worn 11 = .ok (.invokestatic 106, 3) := by decide +kernel
theorem dX5_worn_14 : decode cX5_worn 14 = .ok (.ifCond .eq 20, 3) := by decide +kernel
theorem dX5_worn_17 : decode cX5_worn 17 = .ok (.iload_n 3, 1) := by decide +kernel
theorem dX5_worn_18 : decode cX5_worn 18 = .ok (.invokestatic 109, 3) := by decide +kernel
theorem dX5_worn_21 : decode cX5_worn 21 = .ok (.ifCond .eq 13, 3) := by decide +kernel
theorem dX5_worn_24 : decode cX5_worn 24 = .ok (.aload_n 0, 1) := by decide +kernel
theorem dX5_worn_25 : decode cX5_worn 25 = .ok (.iload_n 1, 1) := by decide +kernel
theorem dX5_worn_26 : decode cX5_worn 26 = .ok (.iload_n 2, 1) := by decide +kernel
theorem dX5_worn_27 : decode cX5_worn 27 = .ok (.iload_n 3, 1) := by decide +kernel
theorem dX5_worn_28 : decode cX5_worn 28 = .ok (.invokevirtual 112, 3) := by decide +kernel
theorem dX5_worn_31 : decode cX5_worn 31 = .ok (.goto 5, 3) := by decide +kernel
theorem dX5_worn_34 : decode cX5_worn 34 = .ok (.bipush (-2), 2) := by decide +kernel
theorem dX5_worn_36 : decode cX5_worn 36 = .ok (.ireturn, 1) := by decide +kernel
theorem dX5_apart_0 : decode cX5_apart 0 = .ok (.iload_n 0, 1) := by decide +kernel
theorem dX5_apart_1 : decode cX5_apart 1 = .ok (.iload_n 1, 1) := by decide +kernel
theorem dX5_apart_2 : decode cX5_apart 2 = .ok (.if_icmp .ge 9, 3) := by decide +kernel
theorem dX5_apart_5 : decode cX5_apart 5 = .ok (.iload_n 1, 1) := by decide +kernel
theorem dX5_apart_6 : decode cX5_apart 6 = .ok (.iload_n 0, 1) := by decide +kernel
theorem dX5_apart_7 : decode cX5_apart 7 = .ok (.isub, 1) := by decide +kernel
theorem dX5_apart_8 : decode cX5_apart 8 = .ok (.goto 6, 3) := by decide +kernel
theorem dX5_apart_11 : decode cX5_apart 11 = .ok (.iload_n 0, 1) := by decide +kernel
theorem dX5_apart_12 : decode cX5_apart 12 = .ok (.iload_n 1, 1) := by decide +kernel
theorem dX5_apart_13 : decode cX5_apart 13 = .ok (.isub, 1) := by decide +kernel
theorem dX5_apart_14 : decode cX5_apart 14 = .ok (.ireturn, 1) := by decide +kernel
set_option maxRecDepth 20000 in
theorem ggX5_offOf_X5_lower : GoodIn wsX5_offOf wsX5_lower := goodIn_r _ [6, 7, 1, 11, 12, 13, 14, 15, 16, 17, 18, 19, 20, 21, 22, 23, 24, 25, 26, 27, 28, 29, 30, 31, 32, 33] (by decide +kernel) (by decide +kernel)
set_option maxRecDepth 20000 in
theorem gX5_offOf_X5_lower : GoodIn wsX5_offOf (wsV RX5 112 RX5 yX5_lower wsX5_lower) := goodIn_app (goodIn_of _ (by decide +kernel)) ggX5_offOf_X5_lower
set_option maxRecDepth 20000 in
theorem ggX5_offOf_X5_apart : GoodIn wsX5_offOf wsX5_apart := goodIn_r _ [10] (by decide +kernel) (by decide +kernel)
set_option maxRecDepth 20000 in
theorem gX5_offOf_X5_apart : GoodIn wsX5_offOf (va_wsS RX5 116 yX5_apart wsX5_apart) := goodIn_app (goodIn_of _ (by decide +kernel)) ggX5_offOf_X5_apart
theorem dX5_offOf_0 : decode cX5_offOf 0 = .ok (.iconst 0, 1) := by decide +kernel
theorem dX5_offOf_1 : decode cX5_offOf 1 = .ok (.istore 4, 2) := by decide +kernel
theorem dX5_offOf_3 : decode cX5_offOf 3 = .ok (.iconst 0, 1) := by decide +kernel
theorem dX5_offOf_4 : decode cX5_offOf 4 = .ok (.istore 5, 2) := by decide +kernel
theorem dX5_offOf_6 : decode cX5_offOf 6 = .ok (.iload 5, 2) := by decide +kernel
theorem dX5_offOf_8 : decode cX5_offOf 8 = .ok (.iconst 3, 1) := by decide +kernel
theorem dX5_offOf_9 : decode cX5_offOf 9 = .ok (.if_icmp .ge 36, 3) := by decide +kernel
theorem dX5_offOf_12 : decode cX5_offOf 12 = .ok (.iload 4, 2) := by decide +kernel
theorem dX5_offOf_14 : decode cX5_offOf 14 = .ok (.aload_n 0, 1) := by decide +kernel
theorem dX5_offOf_15 : decode cX5_offOf 15 = .ok (.getfield 22, 3) := by decide +kernel
theorem dX5_offOf_18 : decode cX5_offOf 18 = .ok (.iconst 3, 1) := by decide +kernel
theorem dX5_offOf_19 : decode cX5_offOf 19 = .ok (.iload_n 1, 1) := by decide +kernel
theorem dX5_offOf_20 : decode cX5_offOf 20 = .ok (.imul, 1) := by decide +kernel
theorem dX5_offOf_21 : decode cX5_offOf 21 = .ok (.iload 5, 2) := by decide +kernel
theorem dX5_offOf_23 : decode cX5_offOf 23 = .ok (.iadd, 1) := by decide +kernel
theorem dX5_offOf_24 : decode cX5_offOf 24 = .ok (.iaload, 1) := by decide +kernel
theorem dX5_offOf_25 : decode cX5_offOf 25 = .ok (.aload_n 0, 1) := by decide +kernel
theorem dX5_offOf_26 : decode cX5_offOf 26 = .ok (.iload_n 2, 1) := by decide +kernel
theorem dX5_offOf_27 : decode cX5_offOf 27 = .ok (.iload 5, 2) := by decide +kernel
theorem dX5_offOf_29 : decode cX5_offOf 29 = .ok (.iload_n 3, 1) := by decide +kernel
theorem dX5_offOf_30 : decode cX5_offOf 30 = .ok (.invokevirtual 112, 3) := by decide +kernel
theorem dX5_offOf_33 : decode cX5_offOf 33 = .ok (.invokestatic 116, 3) := by decide +kernel
theorem dX5_offOf_36 : decode cX5_offOf 36 = .ok (.iadd, 1) := by decide +kernel
theorem dX5_offOf_37 : decode cX5_offOf 37 = .ok (.istore 4, 2) := by decide +kernel
theorem dX5_offOf_39 : decode cX5_offOf 39 = .ok (.iinc 5 1, 3) := by decide +kernel
theorem dX5_offOf_42 : decode cX5_offOf 42 = .ok (.goto (-36), 3) := by decide +kernel
theorem dX5_offOf_45 : decode cX5_offOf 45 = .ok (.iload 4, 2) := by decide +kernel
theorem dX5_offOf_47 : decode cX5_offOf 47 = .ok (.ireturn, 1) := by decide +kernel
set_option maxRecDepth 20000 in
theorem ggX5_isFit_X5_offOf : GoodIn wsX5_isFit wsX5_offOf := goodIn_r _ [6, 7, 8, 9, 10, 5, 11, 12, 13, 14, 15, 16, 17, 18, 19, 20, 21, 22, 23, 24, 25, 26, 27, 28, 29, 30, 31, 32, 33, 34, 35, 36, 37, 38] (by decide +kernel) (by decide +kernel)
set_option maxRecDepth 20000 in
theorem gX5_isFit_X5_offOf : GoodIn wsX5_isFit (wsV RX5 120 RX5 yX5_offOf wsX5_offOf) := goodIn_app (goodIn_of _ (by decide +kernel)) ggX5_isFit_X5_offOf
theorem dX5_isFit_0 : decode cX5_isFit 0 = .ok (.aload_n 0, 1) := by decide +kernel
theorem dX5_isFit_1 : decode cX5_isFit 1 = .ok (.iload_n 1, 1) := by decide +kernel
theorem dX5_isFit_2 : decode cX5_isFit 2 = .ok (.iload_n 2, 1) := by decide +kernel
theorem dX5_isFit_3 : decode cX5_isFit 3 = .ok (.iload_n 3, 1) := by decide +kernel
theorem dX5_isFit_4 : decode cX5_isFit 4 = .ok (.invokevirtual 120, 3) := by decide +kernel
theorem dX5_isFit_7 : decode cX5_isFit 7 = .ok (.aload_n 0, 1) := by decide +kernel
theorem dX5_isFit_8 : decode cX5_isFit 8 = .ok (.getfield 84, 3) := by decide +kernel
theorem dX5_isFit_11 : decode cX5_isFit 11 = .ok (.if_icmp .gt 7, 3) := by decide +kernel
theorem dX5_isFit_14 : decode cX5_isFit 14 = .ok (.iconst 1, 1) := by decide +kernel
theorem dX5_isFit_15 : decode cX5_isFit 15 = .ok (.goto 4, 3) := by decide +kernel
theorem dX5_isFit_18 : decode cX5_isFit 18 = .ok (.iconst 0, 1) := by decide +kernel
theorem dX5_isFit_19 : decode cX5_isFit 19 = .ok (.ireturn, 1) := by decide +kernel
set_option maxRecDepth 20000 in
theorem ggX5_fitsOf_X5_isFit : GoodIn wsX5_fitsOf wsX5_isFit := goodIn_r _ [6, 7, 8, 9, 10, 5, 11, 12, 13, 14, 15, 16, 17, 18, 19, 20, 21, 22, 23, 24, 25, 26, 27, 28, 29, 30, 31, 32, 33, 34, 35, 36, 37, 38, 39, 40, 41, 42, 43] (by decide +kernel) (by decide +kernel)
set_option maxRecDepth 20000 in
theorem gX5_fitsOf_X5_isFit : GoodIn wsX5_fitsOf (wsV RX5 123 RX5 yX5_isFit wsX5_isFit) := goodIn_app (goodIn_of _ (by decide +kernel)) ggX5_fitsOf_X5_isFit
theorem dX5_fitsOf_0 : decode cX5_fitsOf 0 = .ok (.iconst 0, 1) := by decide +kernel
theorem dX5_fitsOf_1 : decode cX5_fitsOf 1 = .ok (.istore_n 3, 1) := by decide +kernel
theorem dX5_fitsOf_2 : decode cX5_fitsOf 2 = .ok (.iconst 0, 1) := by decide +kernel
theorem dX5_fitsOf_3 : decode cX5_fitsOf 3 = .ok (.istore 4, 2) := by decide +kernel
theorem dX5_fitsOf_5 : decode cX5_fitsOf 5 = .ok (.iload 4, 2) := by decide +kernel
theorem dX5_fitsOf_7 : decode cX5_fitsOf 7 = .ok (.aload_n 0, 1) := by decide +kernel
theorem dX5_fitsOf_8 : decode cX5_fitsOf 8 = .ok (.getfield 57, 3) := by decide +kernel
theorem dX5_fitsOf_11 : decode cX5_fitsOf 11 = .ok (.if_icmp .ge 31, 3) := by decide +kernel
theorem dX5_fitsOf_14 : decode cX5_fitsOf 14 = .ok (.iload_n 3, 1) := by decide +kernel
theorem dX5_fitsOf_15 : decode cX5_fitsOf 15 = .ok (.aload_n 0, 1) := by decide +kernel
theorem dX5_fitsOf_16 : decode cX5_fitsOf 16 = .ok (.iload 4, 2) := by decide +kernel
theorem dX5_fitsOf_18 : decode cX5_fitsOf 18 = .ok (.iload_n 1, 1) := by decide +kernel
theorem dX5_fitsOf_19 : decode cX5_fitsOf 19 = .ok (.iload_n 2, 1) := by decide +kernel
theorem dX5_fitsOf_20 : decode cX5_fitsOf 20 = .ok (.invokevirtual 123, 3) := by decide +kernel
theorem dX5_fitsOf_23 : decode cX5_fitsOf 23 = .ok (.ifCond .eq 10, 3) := by decide +kernel
theorem dX5_fitsOf_26 : decode cX5_fitsOf 26 = .ok (.iconst 1, 1) := by decide +kernel
theorem dX5_fitsOf_27 : decode cX5_fitsOf 27 = .ok (.iload 4, 2) := by decide +kernel
theorem dX5_fitsOf_29 : decode cX5_fitsOf 29 = .ok (.ishl, 1) := by decide +kernel
theorem dX5_fitsOf_30 : decode cX5_fitsOf 30 = .ok (.goto 4, 3) := by decide +kernel
theorem dX5_fitsOf_33 : decode cX5_fitsOf 33 = .ok (.iconst 0, 1) := by decide +kernel
theorem dX5_fitsOf_34 : decode cX5_fitsOf 34 = .ok (.ior, 1) := by decide +kernel
theorem dX5_fitsOf_35 : decode cX5_fitsOf 35 = .ok (.istore_n 3, 1) := by decide +kernel
theorem dX5_fitsOf_36 : decode cX5_fitsOf 36 = .ok (.iinc 4 1, 3) := by decide +kernel
theorem dX5_fitsOf_39 : decode cX5_fitsOf 39 = .ok (.goto (-34), 3) := by decide +kernel
theorem dX5_fitsOf_42 : decode cX5_fitsOf 42 = .ok (.iload_n 3, 1) := by decide +kernel
theorem dX5_fitsOf_43 : decode cX5_fitsOf 43 = .ok (.ireturn, 1) := by decide +kernel
set_option maxRecDepth 20000 in
theorem ggX5_off_X5_isPass : GoodIn wsX5_off wsX5_isPass := goodIn_r _ [5, 6, 26, 27, 28, 29, 30, 31, 32, 33, 34, 35, 36, 37, 38, 39, 40, 41, 42, 43, 44, 45, 46, 47, 48] (by decide +kernel) (by decide +kernel)
set_option maxRecDepth 20000 in
theorem gX5_off_X5_isPass : GoodIn wsX5_off (wsV RX5 103 RX5 yX5_isPass wsX5_isPass) := goodIn_app (goodIn_of _ (by decide +kernel)) ggX5_off_X5_isPass
set_option maxRecDepth 20000 in
theorem ggX5_off_X5_isDigit : GoodIn wsX5_off wsX5_isDigit := goodIn_r _ [9, 10, 11, 4, 12] (by decide +kernel) (by decide +kernel)
set_option maxRecDepth 20000 in
theorem gX5_off_X5_isDigit : GoodIn wsX5_off (va_wsS RX5 109 yX5_isDigit wsX5_isDigit) := goodIn_app (goodIn_of _ (by decide +kernel)) ggX5_off_X5_isDigit
set_option maxRecDepth 20000 in
theorem ggX5_off_X5_offOf : GoodIn wsX5_off wsX5_offOf := goodIn_r _ [16, 17, 18, 19, 20, 4, 21, 22, 23, 24, 25, 26, 27, 28, 29, 30, 31, 32, 33, 34, 35, 36, 37, 38, 39, 40, 41, 42, 43, 44, 45, 46, 47, 48] (by decide +kernel) (by decide +kernel)
set_option maxRecDepth 20000 in
theorem gX5_off_X5_offOf : GoodIn wsX5_off (wsV RX5 120 RX5 yX5_offOf wsX5_offOf) := goodIn_app (goodIn_of _ (by decide +kernel)) ggX5_off_X5_offOf
theorem dX5_off_0 : decode cX5_off 0 = .ok (.aload_n 0, 1) := by decide +kernel
theorem dX5_off_1 : decode cX5_off 1 = .ok (.iload_n 1, 1) := by decide +kernel
theorem dX5_off_2 : decode cX5_off 2 = .ok (.invokevirtual 103, 3) := by decide +kernel
theorem dX5_off_5 : decode cX5_off 5 = .ok (.ifCond .eq 11, 3) := by decide +kernel
theorem dX5_off_8 : decode cX5_off 8 = .ok (.aload_n 0, 1) := by decide +kernel
theorem dX5_off_9 : decode cX5_off 9 = .ok (.iload_n 2, 1) := by decide +kernel
theorem dX5_off_10 : decode cX5_off 10 = .ok (.invokevirtual 103, 3) := by decide +kernel
theorem dX5_off_13 : decode cX5_off 13 = .ok (.ifCond .ne 5, 3) := by decide +kernel
theorem dX5_off_16 : decode cX5_off 16 = .ok (.iconst (-1), 1) := by decide +kernel
theorem dX5_off_17 : decode cX5_off 17 = .ok (.ireturn, 1) := by decide +kernel
theorem dX5_off_18 : decode cX5_off 18 = .ok (.iload_n 3, 1) := by decide +kernel
theorem dX5_off_19 : decode cX5_off 19 = .ok (.invokestatic 109, 3) := by decide +kernel
theorem dX5_off_22 : decode cX5_off 22 = .ok (.ifCond .eq 13, 3) := by decide +kernel
theorem dX5_off_25 : decode cX5_off 25 = .ok (.aload_n 0, 1) := by decide +kernel
theorem dX5_off_26 : decode cX5_off 26 = .ok (.iload_n 1, 1) := by decide +kernel
theorem dX5_off_27 : decode cX5_off 27 = .ok (.iload_n 2, 1) := by decide +kernel
theorem dX5_off_28 : decode cX5_off 28 = .ok (.iload_n 3, 1) := by decide +kernel
theorem dX5_off_29 : decode cX5_off 29 = .ok (.invokevirtual 120, 3) := by decide +kernel
theorem dX5_off_32 : decode cX5_off 32 = .ok (.goto 5, 3) := by decide +kernel
theorem dX5_off_35 : decode cX5_off 35 = .ok (.bipush (-2), 2) := by decide +kernel
theorem dX5_off_37 : decode cX5_off 37 = .ok (.ireturn, 1) := by decide +kernel
set_option maxRecDepth 20000 in
theorem ggX5_fits_X5_isPass : GoodIn wsX5_fits wsX5_isPass := goodIn_r _ [5, 6, 35, 36, 37, 38, 39, 40, 41, 42, 43, 44, 45, 46, 47, 48, 49, 50, 51, 52, 53, 54, 55, 56, 57] (by decide +kernel) (by decide +kernel)
set_option maxRecDepth 20000 in
theorem gX5_fits_X5_isPass : GoodIn wsX5_fits (wsV RX5 103 RX5 yX5_isPass wsX5_isPass) := goodIn_app (goodIn_of _ (by decide +kernel)) ggX5_fits_X5_isPass
set_option maxRecDepth 20000 in
theorem ggX5_fits_X5_isDigit : GoodIn wsX5_fits wsX5_isDigit := goodIn_r _ [9, 10, 11, 4, 12] (by decide +kernel) (by decide +kernel)
set_option maxRecDepth 20000 in
theorem gX5_fits_X5_isDigit : GoodIn wsX5_fits (va_wsS RX5 109 yX5_isDigit wsX5_isDigit) := goodIn_app (goodIn_of _ (by decide +kernel)) ggX5_fits_X5_isDigit
set_option maxRecDepth 20000 in
theorem ggX5_fits_X5_fitsOf : GoodIn wsX5_fits wsX5_fitsOf := goodIn_r _ [16, 6, 17, 18, 19, 4, 20, 21, 22, 23, 24, 25, 26, 27, 28, 29, 30, 31, 32, 33, 34, 35, 36, 37, 38, 39, 40, 41, 42, 43, 44, 45, 46, 47, 48, 49, 50, 51, 52, 53, 54, 55, 56, 57] (by decide +kernel) (by decide +kernel)
set_option maxRecDepth 20000 in
theorem gX5_fits_X5_fitsOf : GoodIn wsX5_fits (wsV RX5 126 RX5 yX5_fitsOf wsX5_fitsOf) := goodIn_app (goodIn_of _ (by decide +kernel)) ggX5_fits_X5_fitsOf
theorem dX5_fits_0 : decode cX5_fits 0 = .ok (.aload_n 0, 1) := by decide +kernel
theorem dX5_fits_1 : decode cX5_fits 1 = .ok (.iload_n 1, 1) := by decide +kernel
theorem dX5_fits_2 : decode cX5_fits 2 = .ok (.invokevirtual 103, 3) := by decide +kernel
theorem dX5_fits_5 : decode cX5_fits 5 = .ok (.ifCond .ne 5, 3) := by decide +kernel
theorem dX5_fits_8 : decode cX5_fits 8 = .ok (.iconst (-1), 1) := by decide +kernel
theorem dX5_fits_9 : decode cX5_fits 9 = .ok (.ireturn, 1) := by decide +kernel
theorem dX5_fits_10 : decode cX5_fits 10 = .ok (.iload_n 2, 1) := by decide +kernel
theorem dX5_fits_11 : decode cX5_fits 11 = .ok (.invokestatic 109, 3) := by decide +kernel
theorem dX5_fits_14 : decode cX5_fits 14 = .ok (.ifCond .eq 12, 3) := by decide +kernel
theorem dX5_fits_17 : decode cX5_fits 17 = .ok (.aload_n 0, 1) := by decide +kernel
theorem dX5_fits_18 : decode cX5_fits 18 = .ok (.iload_n 1, 1) := by decide +kernel
theorem dX5_fits_19 : decode cX5_fits 19 = .ok (.iload_n 2, 1) := by decide +kernel
theorem dX5_fits_20 : decode cX5_fits 20 = .ok (.invokevirtual 126, 3) := by decide +kernel
theorem dX5_fits_23 : decode cX5_fits 23 = .ok (.goto 5, 3) := by decide +kernel
theorem dX5_fits_26 : decode cX5_fits 26 = .ok (.bipush (-2), 2) := by decide +kernel
theorem dX5_fits_28 : decode cX5_fits 28 = .ok (.ireturn, 1) := by decide +kernel
set_option maxRecDepth 20000 in
theorem ggX5_match_X5_isPass : GoodIn wsX5_match wsX5_isPass := goodIn_r _ [6, 1, 31, 32, 33, 34, 35, 36, 37, 38, 39, 40, 41, 42, 43, 44, 45, 46, 47, 48, 49, 50, 51, 52, 53] (by decide +kernel) (by decide +kernel)
set_option maxRecDepth 20000 in
theorem gX5_match_X5_isPass : GoodIn wsX5_match (wsV RX5 103 RX5 yX5_isPass wsX5_isPass) := goodIn_app (goodIn_of _ (by decide +kernel)) ggX5_match_X5_isPass
set_option maxRecDepth 20000 in
theorem ggX5_match_X5_isDigit : GoodIn wsX5_match wsX5_isDigit := goodIn_r _ [9, 10, 11, 5, 12] (by decide +kernel) (by decide +kernel)
set_option maxRecDepth 20000 in
theorem gX5_match_X5_isDigit : GoodIn wsX5_match (va_wsS RX5 109 yX5_isDigit wsX5_isDigit) := goodIn_app (goodIn_of _ (by decide +kernel)) ggX5_match_X5_isDigit
set_option maxRecDepth 20000 in
theorem ggX5_match_X5_isFit : GoodIn wsX5_match wsX5_isFit := goodIn_r _ [16, 17, 18, 19, 20, 5, 21, 22, 23, 24, 25, 26, 27, 28, 29, 30, 31, 32, 33, 34, 35, 36, 37, 38, 39, 40, 41, 42, 43, 44, 45, 46, 47, 48, 49, 50, 51, 52, 53] (by decide +kernel) (by decide +kernel)
set_option maxRecDepth 20000 in
theorem gX5_match_X5_isFit : GoodIn wsX5_match (wsV RX5 123 RX5 yX5_isFit wsX5_isFit) := goodIn_app (goodIn_of _ (by decide +kernel)) ggX5_match_X5_isFit
set_option maxRecDepth 20000 in
theorem ggX5_match_X5_offOf : GoodIn wsX5_match wsX5_offOf := goodIn_r _ [21, 22, 23, 24, 25, 5, 26, 27, 28, 29, 30, 31, 32, 33, 34, 35, 36, 37, 38, 39, 40, 41, 42, 43, 44, 45, 46, 47, 48, 49, 50, 51, 52, 53] (by decide +kernel) (by decide +kernel)
set_option maxRecDepth 20000 in
theorem gX5_match_X5_offOf : GoodIn wsX5_match (wsV RX5 120 RX5 yX5_offOf wsX5_offOf) := goodIn_app (goodIn_of _ (by decide +kernel)) ggX5_match_X5_offOf
theorem dX5_match_0 : decode cX5_match 0 = .ok (.aload_n 0, 1) := by decide +kernel
theorem dX5_match_1 : decode cX5_match 1 = .ok (.iload_n 1, 1) := by decide +kernel
theorem dX5_match_2 : decode cX5_match 2 = .ok (.invokevirtual 103, 3) := by decide +kernel
theorem dX5_match_5 : decode cX5_match 5 = .ok (.ifCond .ne 5, 3) := by decide +kernel
theorem dX5_match_8 : decode cX5_match 8 = .ok (.iconst (-1), 1) := by decide +kernel
theorem dX5_match_9 : decode cX5_match 9 = .ok (.ireturn, 1) := by decide +kernel
theorem dX5_match_10 : decode cX5_match 10 = .ok (.iload_n 2, 1) := by decide +kernel
theorem dX5_match_11 : decode cX5_match 11 = .ok (.invokestatic 109, 3) := by decide +kernel
theorem dX5_match_14 : decode cX5_match 14 = .ok (.ifCond .ne 6, 3) := by decide +kernel
theorem dX5_match_17 : decode cX5_match 17 = .ok (.bipush (-2), 2) := by decide +kernel
theorem dX5_match_19 : decode cX5_match 19 = .ok (.ireturn, 1) := by decide +kernel
theorem dX5_match_20 : decode cX5_match 20 = .ok (.bipush (-9), 2) := by decide +kernel
theorem dX5_match_22 : decode cX5_match 22 = .ok (.istore_n 3, 1) := by decide +kernel
theorem dX5_match_23 : decode cX5_match 23 = .ok (.iconst 0, 1) := by decide +kernel
theorem dX5_match_24 : decode cX5_match 24 = .ok (.istore 4, 2) := by decide +kernel
theorem dX5_match_26 : decode cX5_match 26 = .ok (.iload 4, 2) := by decide +kernel
theorem dX5_match_28 : decode cX5_match 28 = .ok (.aload_n 0, 1) := by decide +kernel
theorem dX5_match_29 : decode cX5_match 29 = .ok (.getfield 57, 3) := by decide +kernel
theorem dX5_match_32 : decode cX5_match 32 = .ok (.if_icmp .ge 47, 3) := by decide +kernel
theorem dX5_match_35 : decode cX5_match 35 = .ok (.aload_n 0, 1) := by decide +kernel
theorem dX5_match_36 : decode cX5_match 36 = .ok (.iload 4, 2) := by decide +kernel
theorem dX5_match_38 : decode cX5_match 38 = .ok (.iload_n 1, 1) := by decide +kernel
theorem dX5_match_39 : decode cX5_match 39 = .ok (.iload_n 2, 1) := by decide +kernel
theorem dX5_match_40 : decode cX5_match 40 = .ok (.invokevirtual 123, 3) := by decide +kernel
theorem dX5_match_43 : decode cX5_match 43 = .ok (.ifCond .eq 30, 3) := by decide +kernel
theorem dX5_match_46 : decode cX5_match 46 = .ok (.iload_n 3, 1) := by decide +kernel
theorem dX5_match_47 : decode cX5_match 47 = .ok (.bipush (-9), 2) := by decide +kernel
theorem dX5_match_49 : decode cX5_match 49 = .ok (.if_icmp .eq 21, 3) := by decide +kernel
theorem dX5_match_52 : decode cX5_match 52 = .ok (.aload_n 0, 1) := by decide +kernel
theorem dX5_match_53 : decode cX5_match 53 = .ok (.iload 4, 2) := by decide +kernel
theorem dX5_match_55 : decode cX5_match 55 = .ok (.iload_n 1, 1) := by decide +kernel
theorem dX5_match_56 : decode cX5_match 56 = .ok (.iload_n 2, 1) := by decide +kernel
theorem dX5_match_57 : decode cX5_match 57 = .ok (.invokevirtual 120, 3) := by decide +kernel
theorem dX5_match_60 : decode cX5_match 60 = .ok (.aload_n 0, 1) := by decide +kernel
theorem dX5_match_61 : decode cX5_match 61 = .ok (.iload_n 3, 1) := by decide +kernel
theorem dX5_match_62 : decode cX5_match 62 = .ok (.iload_n 1, 1) := by decide +kernel
theorem dX5_match_63 : decode cX5_match 63 = .ok (.iload_n 2, 1) := by decide +kernel
theorem dX5_match_64 : decode cX5_match 64 = .ok (.invokevirtual 120, 3) := by decide +kernel
theorem dX5_match_67 : decode cX5_match 67 = .ok (.if_icmp .ge 6, 3) := by decide +kernel
theorem dX5_match_70 : decode cX5_match 70 = .ok (.iload 4, 2) := by decide +kernel
theorem dX5_match_72 : decode cX5_match 72 = .ok (.istore_n 3, 1) := by decide +kernel
theorem dX5_match_73 : decode cX5_match 73 = .ok (.iinc 4 1, 3) := by decide +kernel
theorem dX5_match_76 : decode cX5_match 76 = .ok (.goto (-50), 3) := by decide +kernel
theorem dX5_match_79 : decode cX5_match 79 = .ok (.iload_n 3, 1) := by decide +kernel
theorem dX5_match_80 : decode cX5_match 80 = .ok (.ireturn, 1) := by decide +kernel
set_option maxRecDepth 20000 in
theorem ggX5_last_X5_isPass : GoodIn wsX5_last wsX5_isPass := goodIn_r _ [5, 6, 25, 26, 27, 28, 29, 30, 31, 32, 33, 34, 35, 36, 37, 38, 39, 40, 41, 42, 43, 44, 45, 46, 47] (by decide +kernel) (by decide +kernel)
set_option maxRecDepth 20000 in
theorem gX5_last_X5_isPass : GoodIn wsX5_last (wsV RX5 103 RX5 yX5_isPass wsX5_isPass) := goodIn_app (goodIn_of _ (by decide +kernel)) ggX5_last_X5_isPass
set_option maxRecDepth 20000 in
theorem ggX5_last_X5_isFit : GoodIn wsX5_last wsX5_isFit := goodIn_r _ [10, 11, 12, 13, 14, 4, 15, 16, 17, 18, 19, 20, 21, 22, 23, 24, 25, 26, 27, 28, 29, 30, 31, 32, 33, 34, 35, 36, 37, 38, 39, 40, 41, 42, 43, 44, 45, 46, 47] (by decide +kernel) (by decide +kernel)
set_option maxRecDepth 20000 in
theorem gX5_last_X5_isFit : GoodIn wsX5_last (wsV RX5 123 RX5 yX5_isFit wsX5_isFit) := goodIn_app (goodIn_of _ (by decide +kernel)) ggX5_last_X5_isFit
theorem dX5_last_0 : decode cX5_last 0 = .ok (.aload_n 0, 1) := by decide +kernel
theorem dX5_last_1 : decode cX5_last 1 = .ok (.iload_n 1, 1) := by decide +kernel
theorem dX5_last_2 : decode cX5_last 2 = .ok (.invokevirtual 103, 3) := by decide +kernel
theorem dX5_last_5 : decode cX5_last 5 = .ok (.ifCond .ne 5, 3) := by decide +kernel
theorem dX5_last_8 : decode cX5_last 8 = .ok (.iconst (-1), 1) := by decide +kernel
theorem dX5_last_9 : decode cX5_last 9 = .ok (.ireturn, 1) := by decide +kernel
theorem dX5_last_10 : decode cX5_last 10 = .ok (.bipush 9, 2) := by decide +kernel
theorem dX5_last_12 : decode cX5_last 12 = .ok (.istore_n 2, 1) := by decide +kernel
theorem dX5_last_13 : decode cX5_last 13 = .ok (.iload_n 2, 1) := by decide +kernel
theorem dX5_last_14 : decode cX5_last 14 = .ok (.ifCond .lt 21, 3) := by decide +kernel
theorem dX5_last_17 : decode cX5_last 17 = .ok (.aload_n 0, 1) := by decide +kernel
theorem dX5_last_18 : decode cX5_last 18 = .ok (.iload_n 1, 1) := by decide +kernel
theorem dX5_last_19 : decode cX5_last 19 = .ok (.iload_n 1, 1) := by decide +kernel
theorem dX5_last_20 : decode cX5_last 20 = .ok (.iload_n 2, 1) := by decide +kernel
theorem dX5_last_21 : decode cX5_last 21 = .ok (.invokevirtual 123, 3) := by decide +kernel
theorem dX5_last_24 : decode cX5_last 24 = .ok (.ifCond .eq 5, 3) := by decide +kernel
theorem dX5_last_27 : decode cX5_last 27 = .ok (.iload_n 2, 1) := by decide +kernel
theorem dX5_last_28 : decode cX5_last 28 = .ok (.ireturn, 1) := by decide +kernel
theorem dX5_last_29 : decode cX5_last 29 = .ok (.iinc 2 (-1), 3) := by decide +kernel
theorem dX5_last_32 : decode cX5_last 32 = .ok (.goto (-19), 3) := by decide +kernel
theorem dX5_last_35 : decode cX5_last 35 = .ok (.bipush (-9), 2) := by decide +kernel
theorem dX5_last_37 : decode cX5_last 37 = .ok (.ireturn, 1) := by decide +kernel
set_option maxRecDepth 20000 in
theorem ggX5_alikeTo_X5_apart : GoodIn wsX5_alikeTo wsX5_apart := goodIn_r _ [7] (by decide +kernel) (by decide +kernel)
set_option maxRecDepth 20000 in
theorem gX5_alikeTo_X5_apart : GoodIn wsX5_alikeTo (va_wsS RX5 116 yX5_apart wsX5_apart) := goodIn_app (goodIn_of _ (by decide +kernel)) ggX5_alikeTo_X5_apart
theorem dX5_alikeTo_0 : decode cX5_alikeTo 0 = .ok (.iconst 0, 1) := by decide +kernel
theorem dX5_alikeTo_1 : decode cX5_alikeTo 1 = .ok (.istore_n 2, 1) := by decide +kernel
theorem dX5_alikeTo_2 : decode cX5_alikeTo 2 = .ok (.iconst 0, 1) := by decide +kernel
theorem dX5_alikeTo_3 : decode cX5_alikeTo 3 = .ok (.istore_n 3, 1) := by decide +kernel
theorem dX5_alikeTo_4 : decode cX5_alikeTo 4 = .ok (.iload_n 3, 1) := by decide +kernel
theorem dX5_alikeTo_5 : decode cX5_alikeTo 5 = .ok (.aload_n 0, 1) := by decide +kernel
theorem dX5_alikeTo_6 : decode cX5_alikeTo 6 = .ok (.getfield 57, 3) := by decide +kernel
theorem dX5_alikeTo_9 : decode cX5_alikeTo 9 = .ok (.if_icmp .ge 81, 3) := by decide +kernel
theorem dX5_alikeTo_12 : decode cX5_alikeTo 12 = .ok (.iconst 0, 1) := by decide +kernel
theorem dX5_alikeTo_13 : decode cX5_alikeTo 13 = .ok (.istore 4, 2) := by decide +kernel
theorem dX5_alikeTo_15 : decode cX5_alikeTo 15 = .ok (.iconst 0, 1) := by decide +kernel
theorem dX5_alikeTo_16 : decode cX5_alikeTo 16 = .ok (.istore 5, 2) := by decide +kernel
theorem dX5_alikeTo_18 : decode cX5_alikeTo 18 = .ok (.iload 5, 2) := by decide +kernel
theorem dX5_alikeTo_20 : decode cX5_alikeTo 20 = .ok (.iconst 3, 1) := by decide +kernel
theorem dX5_alikeTo_21 : decode cX5_alikeTo 21 = .ok (.if_icmp .ge 39, 3) := by decide +kernel
theorem dX5_alikeTo_24 : decode cX5_alikeTo 24 = .ok (.iload 4, 2) := by decide +kernel
theorem dX5_alikeTo_26 : decode cX5_alikeTo 26 = .ok (.aload_n 0, 1) := by decide +kernel
theorem dX5_alikeTo_27 : decode cX5_alikeTo 27 = .ok (.getfield 22, 3) := by decide +kernel
theorem dX5_alikeTo_30 : decode cX5_alikeTo 30 = .ok (.iconst 3, 1) := by decide +kernel
theorem dX5_alikeTo_31 : decode cX5_alikeTo 31 = .ok (.iload_n 1, 1) := by decide +kernel
theorem dX5_alikeTo_32 : decode cX5_alikeTo 32 = .ok (.imul, 1) := by decide +kernel
theorem dX5_alikeTo_33 : decode cX5_alikeTo 33 = .ok (.iload 5, 2) := by decide +kernel
theorem dX5_alikeTo_35 : decode cX5_alikeTo 35 = .ok (.iadd, 1) := by decide +kernel
theorem dX5_alikeTo_36 : decode cX5_alikeTo 36 = .ok (.iaload, 1) := by decide +kernel
theorem dX5_alikeTo_37 : decode cX5_alikeTo 37 = .ok (.aload_n 0, 1) := by decide +kernel
theorem dX5_alikeTo_38 : decode cX5_alikeTo 38 = .ok (.getfield 22, 3) := by decide +kernel
theorem dX5_alikeTo_41 : decode cX5_alikeTo 41 = .ok (.iconst 3, 1) := by decide +kernel
theorem dX5_alikeTo_42 : decode cX5_alikeTo 42 = .ok (.iload_n 3, 1) := by decide +kernel
theorem dX5_alikeTo_43 : decode cX5_alikeTo 43 = .ok (.imul, 1) := by decide +kernel
theorem dX5_alikeTo_44 : decode cX5_alikeTo 44 = .ok (.iload 5, 2) := by decide +kernel
theorem dX5_alikeTo_46 : decode cX5_alikeTo 46 = .ok (.iadd, 1) := by decide +kernel
theorem dX5_alikeTo_47 : decode cX5_alikeTo 47 = .ok (.iaload, 1) := by decide +kernel
theorem dX5_alikeTo_48 : decode cX5_alikeTo 48 = .ok (.invokestatic 116, 3) := by decide +kernel
theorem dX5_alikeTo_51 : decode cX5_alikeTo 51 = .ok (.iadd, 1) := by decide +kernel
theorem dX5_alikeTo_52 : decode cX5_alikeTo 52 = .ok (.istore 4, 2) := by decide +kernel
theorem dX5_alikeTo_54 : decode cX5_alikeTo 54 = .ok (.iinc 5 1, 3) := by decide +kernel
theorem dX5_alikeTo_57 : decode cX5_alikeTo 57 = .ok (.goto (-39), 3) := by decide +kernel
theorem dX5_alikeTo_60 : decode cX5_alikeTo 60 = .ok (.iload_n 2, 1) := by decide +kernel
theorem dX5_alikeTo_61 : decode cX5_alikeTo 61 = .ok (.iload_n 3, 1) := by decide +kernel
theorem dX5_alikeTo_62 : decode cX5_alikeTo 62 = .ok (.iload_n 1, 1) := by decide +kernel
theorem dX5_alikeTo_63 : decode cX5_alikeTo 63 = .ok (.if_icmp .eq 18, 3) := by decide +kernel
theorem dX5_alikeTo_66 : decode cX5_alikeTo 66 = .ok (.iload 4, 2) := by decide +kernel
theorem dX5_alikeTo_68 : decode cX5_alikeTo 68 = .ok (.aload_n 0, 1) := by decide +kernel
theorem dX5_alikeTo_69 : decode cX5_alikeTo 69 = .ok (.getfield 84, 3) := by decide +kernel
theorem dX5_alikeTo_72 : decode cX5_alikeTo 72 = .ok (.if_icmp .gt 9, 3) := by decide +kernel
theorem dX5_alikeTo_75 : decode cX5_alikeTo 75 = .ok (.iconst 1, 1) := by decide +kernel
theorem dX5_alikeTo_76 : decode cX5_alikeTo 76 = .ok (.iload_n 3, 1) := by decide +kernel
theorem dX5_alikeTo_77 : decode cX5_alikeTo 77 = .ok (.ishl, 1) := by decide +kernel
theorem dX5_alikeTo_78 : decode cX5_alikeTo 78 = .ok (.goto 4, 3) := by decide +kernel
theorem dX5_alikeTo_81 : decode cX5_alikeTo 81 = .ok (.iconst 0, 1) := by decide +kernel
theorem dX5_alikeTo_82 : decode cX5_alikeTo 82 = .ok (.ior, 1) := by decide +kernel
theorem dX5_alikeTo_83 : decode cX5_alikeTo 83 = .ok (.istore_n 2, 1) := by decide +kernel
theorem dX5_alikeTo_84 : decode cX5_alikeTo 84 = .ok (.iinc 3 1, 3) := by decide +kernel
theorem dX5_alikeTo_87 : decode cX5_alikeTo 87 = .ok (.goto (-83), 3) := by decide +kernel
theorem dX5_alikeTo_90 : decode cX5_alikeTo 90 = .ok (.iload_n 2, 1) := by decide +kernel
theorem dX5_alikeTo_91 : decode cX5_alikeTo 91 = .ok (.ireturn, 1) := by decide +kernel
set_option maxRecDepth 20000 in
theorem ggX5_alike_X5_isPass : GoodIn wsX5_alike wsX5_isPass := goodIn_r _ [5, 6, 16, 17, 18, 19, 20, 21, 22, 23, 24, 25, 26, 27, 28, 29, 30, 31, 32, 33, 34, 35, 36, 37, 38] (by decide +kernel) (by decide +kernel)
set_option maxRecDepth 20000 in
theorem gX5_alike_X5_isPass : GoodIn wsX5_alike (wsV RX5 103 RX5 yX5_isPass wsX5_isPass) := goodIn_app (goodIn_of _ (by decide +kernel)) ggX5_alike_X5_isPass
set_option maxRecDepth 20000 in
theorem ggX5_alike_X5_alikeTo : GoodIn wsX5_alike wsX5_alikeTo := goodIn_r _ [10, 6, 11, 12, 13, 14, 4, 15, 16, 17, 18, 19, 20, 21, 22, 23, 24, 25, 26, 27, 28, 29, 30, 31, 32, 33, 34, 35, 36, 37, 38] (by decide +kernel) (by decide +kernel)
set_option maxRecDepth 20000 in
theorem gX5_alike_X5_alikeTo : GoodIn wsX5_alike (wsV RX5 129 RX5 yX5_alikeTo wsX5_alikeTo) := goodIn_app (goodIn_of _ (by decide +kernel)) ggX5_alike_X5_alikeTo
theorem dX5_alike_0 : decode cX5_alike 0 = .ok (.aload_n 0, 1) := by decide +kernel
theorem dX5_alike_1 : decode cX5_alike 1 = .ok (.iload_n 1, 1) := by decide +kernel
theorem dX5_alike_2 : decode cX5_alike 2 = .ok (.invokevirtual 103, 3) := by decide +kernel
theorem dX5_alike_5 : decode cX5_alike 5 = .ok (.ifCond .eq 11, 3) := by decide +kernel
theorem dX5_alike_8 : decode cX5_alike 8 = .ok (.aload_n 0, 1) := by decide +kernel
theorem dX5_alike_9 : decode cX5_alike 9 = .ok (.iload_n 1, 1) := by decide +kernel
theorem dX5_alike_10 : decode cX5_alike 10 = .ok (.invokevirtual 129, 3) := by decide +kernel
theorem dX5_alike_13 : decode cX5_alike 13 = .ok (.goto 4, 3) := by decide +kernel
theorem dX5_alike_16 : decode cX5_alike 16 = .ok (.iconst (-1), 1) := by decide +kernel
theorem dX5_alike_17 : decode cX5_alike 17 = .ok (.ireturn, 1) := by decide +kernel
theorem dX5_size_0 : decode cX5_size 0 = .ok (.iconst 0, 1) := by decide +kernel
theorem dX5_size_1 : decode cX5_size 1 = .ok (.istore_n 1, 1) := by decide +kernel
theorem dX5_size_2 : decode cX5_size 2 = .ok (.iload_n 0, 1) := by decide +kernel
theorem dX5_size_3 : decode cX5_size 3 = .ok (.istore_n 2, 1) := by decide +kernel
theorem dX5_size_4 : decode cX5_size 4 = .ok (.iload_n 2, 1) := by decide +kernel
theorem dX5_size_5 : decode cX5_size 5 = .ok (.ifCond .le 16, 3) := by decide +kernel
theorem dX5_size_8 : decode cX5_size 8 = .ok (.iload_n 1, 1) := by decide +kernel
theorem dX5_size_9 : decode cX5_size 9 = .ok (.iload_n 2, 1) := by decide +kernel
theorem dX5_size_10 : decode cX5_size 10 = .ok (.iconst 1, 1) := by decide +kernel
theorem dX5_size_11 : decode cX5_size 11 = .ok (.iand, 1) := by decide +kernel
theorem dX5_size_12 : decode cX5_size 12 = .ok (.iadd, 1) := by decide +kernel
theorem dX5_size_13 : decode cX5_size 13 = .ok (.istore_n 1, 1) := by decide +kernel
theorem dX5_size_14 : decode cX5_size 14 = .ok (.iload_n 2, 1) := by decide +kernel
theorem dX5_size_15 : decode cX5_size 15 = .ok (.iconst 1, 1) := by decide +kernel
theorem dX5_size_16 : decode cX5_size 16 = .ok (.ishr, 1) := by decide +kernel
theorem dX5_size_17 : decode cX5_size 17 = .ok (.istore_n 2, 1) := by decide +kernel
theorem dX5_size_18 : decode cX5_size 18 = .ok (.goto (-14), 3) := by decide +kernel
theorem dX5_size_21 : decode cX5_size 21 = .ok (.iload_n 1, 1) := by decide +kernel
theorem dX5_size_22 : decode cX5_size 22 = .ok (.ireturn, 1) := by decide +kernel
set_option maxRecDepth 20000 in
theorem ggX5_areUnlike_X5_alikeTo : GoodIn wsX5_areUnlike wsX5_alikeTo := goodIn_r _ [6, 1, 7, 8, 9, 10, 5, 11, 12, 13, 14, 15, 16, 17, 18, 19, 20, 21, 22, 23, 24, 25, 26, 27, 28, 29, 30, 31, 32, 33, 34] (by decide +kernel) (by decide +kernel)
set_option maxRecDepth 20000 in
theorem gX5_areUnlike_X5_alikeTo : GoodIn wsX5_areUnlike (wsV RX5 129 RX5 yX5_alikeTo wsX5_alikeTo) := goodIn_app (goodIn_of _ (by decide +kernel)) ggX5_areUnlike_X5_alikeTo
theorem dX5_areUnlike_0 : decode cX5_areUnlike 0 = .ok (.iconst 0, 1) := by decide +kernel
theorem dX5_areUnlike_1 : decode cX5_areUnlike 1 = .ok (.istore_n 2, 1) := by decide +kernel
theorem dX5_areUnlike_2 : decode cX5_areUnlike 2 = .ok (.iload_n 2, 1) := by decide +kernel
theorem dX5_areUnlike_3 : decode cX5_areUnlike 3 = .ok (.aload_n 0, 1) := by decide +kernel
theorem dX5_areUnlike_4 : decode cX5_areUnlike 4 = .ok (.getfield 57, 3) := by decide +kernel
theorem dX5_areUnlike_7 : decode cX5_areUnlike 7 = .ok (.if_icmp .ge 30, 3) := by decide +kernel
theorem dX5_areUnlike_10 : decode cX5_areUnlike 10 = .ok (.iload_n 1, 1) := by decide +kernel
theorem dX5_areUnlike_11 : decode cX5_areUnlike 11 = .ok (.iload_n 2, 1) := by decide +kernel
theorem dX5_areUnlike_12 : decode cX5_areUnlike 12 = .ok (.ishr, 1) := by decide +kernel
theorem dX5_areUnlike_13 : decode cX5_areUnlike 13 = .ok (.iconst 1, 1) := by decide +kernel
theorem dX5_areUnlike_14 : decode cX5_areUnlike 14 = .ok (.iand, 1) := by decide +kernel
theorem dX5_areUnlike_15 : decode cX5_areUnlike 15 = .ok (.iconst 1, 1) := by decide +kernel
theorem dX5_areUnlike_16 : decode cX5_areUnlike 16 = .ok (.if_icmp .ne 15, 3) := by decide +kernel
theorem dX5_areUnlike_19 : decode cX5_areUnlike 19 = .ok (.aload_n 0, 1) := by decide +kernel
theorem dX5_areUnlike_20 : decode cX5_areUnlike 20 = .ok (.iload_n 2, 1) := by decide +kernel
theorem dX5_areUnlike_21 : decode cX5_areUnlike 21 = .ok (.invokevirtual 129, 3) := by decide +kernel
theorem dX5_areUnlike_24 : decode cX5_areUnlike 24 = .ok (.iload_n 1, 1) := by decide +kernel
theorem dX5_areUnlike_25 : decode cX5_areUnlike 25 = .ok (.iand, 1) := by decide +kernel
theorem dX5_areUnlike_26 : decode cX5_areUnlike 26 = .ok (.ifCond .eq 5, 3) := by decide +kernel
theorem dX5_areUnlike_29 : decode cX5_areUnlike 29 = .ok (.iconst 0, 1) := by decide +kernel
theorem dX5_areUnlike_30 : decode cX5_areUnlike 30 = .ok (.ireturn, 1) := by decide +kernel
theorem dX5_areUnlike_31 : decode cX5_areUnlike 31 = .ok (.iinc 2 1, 3) := by decide +kernel
theorem dX5_areUnlike_34 : decode cX5_areUnlike 34 = .ok (.goto (-32), 3) := by decide +kernel
theorem dX5_areUnlike_37 : decode cX5_areUnlike 37 = .ok (.iconst 1, 1) := by decide +kernel
theorem dX5_areUnlike_38 : decode cX5_areUnlike 38 = .ok (.ireturn, 1) := by decide +kernel
set_option maxRecDepth 20000 in
theorem ggX5_most_X5_size : GoodIn wsX5_most wsX5_size := goodIn_r _ [5] (by decide +kernel) (by decide +kernel)
set_option maxRecDepth 20000 in
theorem gX5_most_X5_size : GoodIn wsX5_most (va_wsS RX5 132 yX5_size wsX5_size) := goodIn_app (goodIn_of _ (by decide +kernel)) ggX5_most_X5_size
set_option maxRecDepth 20000 in
theorem ggX5_most_X5_areUnlike : GoodIn wsX5_most wsX5_areUnlike := goodIn_r _ [9, 1, 10, 11, 12, 4, 13, 14, 15, 16, 17, 18, 19, 20, 21, 22, 23, 24, 25, 26, 27, 28, 29, 30, 31, 32, 33, 34, 35, 36, 37, 38, 39, 40, 41] (by decide +kernel) (by decide +kernel)
set_option maxRecDepth 20000 in
theorem gX5_most_X5_areUnlike : GoodIn wsX5_most (wsV RX5 135 RX5 yX5_areUnlike wsX5_areUnlike) := goodIn_app (goodIn_of _ (by decide +kernel)) ggX5_most_X5_areUnlike
theorem dX5_most_0 : decode cX5_most 0 = .ok (.aload_n 0, 1) := by decide +kernel
theorem dX5_most_1 : decode cX5_most 1 = .ok (.getfield 57, 3) := by decide +kernel
theorem dX5_most_4 : decode cX5_most 4 = .ok (.ifCond .ne 6, 3) := by decide +kernel
theorem dX5_most_7 : decode cX5_most 7 = .ok (.bipush (-3), 2) := by decide +kernel
theorem dX5_most_9 : decode cX5_most 9 = .ok (.ireturn, 1) := by decide +kernel
theorem dX5_most_10 : decode cX5_most 10 = .ok (.iconst 0, 1) := by decide +kernel
theorem dX5_most_11 : decode cX5_most 11 = .ok (.istore_n 1, 1) := by decide +kernel
theorem dX5_most_12 : decode cX5_most 12 = .ok (.iconst 1, 1) := by decide +kernel
theorem dX5_most_13 : decode cX5_most 13 = .ok (.istore_n 2, 1) := by decide +kernel
theorem dX5_most_14 : decode cX5_most 14 = .ok (.iload_n 2, 1) := by decide +kernel
theorem dX5_most_15 : decode cX5_most 15 = .ok (.iconst 1, 1) := by decide +kernel
theorem dX5_most_16 : decode cX5_most 16 = .ok (.aload_n 0, 1) := by decide +kernel
theorem dX5_most_17 : decode cX5_most 17 = .ok (.getfield 57, 3) := by decide +kernel
theorem dX5_most_20 : decode cX5_most 20 = .ok (.ishl, 1) := by decide +kernel
theorem dX5_most_21 : decode cX5_most 21 = .ok (.if_icmp .ge 30, 3) := by decide +kernel
theorem dX5_most_24 : decode cX5_most 24 = .ok (.iload_n 2, 1) := by decide +kernel
theorem dX5_most_25 : decode cX5_most 25 = .ok (.invokestatic 132, 3) := by decide +kernel
theorem dX5_most_28 : decode cX5_most 28 = .ok (.iload_n 1, 1) := by decide +kernel
theorem dX5_most_29 : decode cX5_most 29 = .ok (.invokestatic 132, 3) := by decide +kernel
theorem dX5_most_32 : decode cX5_most 32 = .ok (.if_icmp .le 13, 3) := by decide +kernel
theorem dX5_most_35 : decode cX5_most 35 = .ok (.aload_n 0, 1) := by decide +kernel
theorem dX5_most_36 : decode cX5_most 36 = .ok (.iload_n 2, 1) := by decide +kernel
theorem dX5_most_37 : decode cX5_most 37 = .ok (.invokevirtual 135, 3) := by decide +kernel
theorem dX5_most_40 : decode cX5_most 40 = .ok (.ifCond .eq 5, 3) := by decide +kernel
theorem dX5_most_43 : decode cX5_most 43 = .ok (.iload_n 2, 1) := by decide +kernel
theorem dX5_most_44 : decode cX5_most 44 = .ok (.istore_n 1, 1) := by decide +kernel
theorem dX5_most_45 : decode cX5_most 45 = .ok (.iinc 2 1, 3) := by decide +kernel
theorem dX5_most_48 : decode cX5_most 48 = .ok (.goto (-34), 3) := by decide +kernel
theorem dX5_most_51 : decode cX5_most 51 = .ok (.iload_n 1, 1) := by decide +kernel
theorem dX5_most_52 : decode cX5_most 52 = .ok (.ireturn, 1) := by decide +kernel
set_option maxRecDepth 20000 in
theorem ggX5_goneOf_X5_fitsOf : GoodIn wsX5_goneOf wsX5_fitsOf := goodIn_r _ [6, 1, 7, 8, 9, 5, 10, 11, 12, 13, 14, 15, 16, 17, 18, 19, 20, 21, 22, 23, 24, 25, 26, 27, 28, 29, 30, 31, 32, 33, 34, 35, 36, 37, 38, 39, 40, 41, 42, 43, 44, 45, 46, 47] (by decide +kernel) (by decide +kernel)
set_option maxRecDepth 20000 in
theorem gX5_goneOf_X5_fitsOf : GoodIn wsX5_goneOf (wsV RX5 126 RX5 yX5_fitsOf wsX5_fitsOf) := goodIn_app (goodIn_of _ (by decide +kernel)) ggX5_goneOf_X5_fitsOf
theorem dX5_goneOf_0 : decode cX5_goneOf 0 = .ok (.iconst 0, 1) := by decide +kernel
theorem dX5_goneOf_1 : decode cX5_goneOf 1 = .ok (.istore_n 3, 1) := by decide +kernel
theorem dX5_goneOf_2 : decode cX5_goneOf 2 = .ok (.iconst 0, 1) := by decide +kernel
theorem dX5_goneOf_3 : decode cX5_goneOf 3 = .ok (.istore 4, 2) := by decide +kernel
theorem dX5_goneOf_5 : decode cX5_goneOf 5 = .ok (.iload 4, 2) := by decide +kernel
theorem dX5_goneOf_7 : decode cX5_goneOf 7 = .ok (.aload_n 0, 1) := by decide +kernel
theorem dX5_goneOf_8 : decode cX5_goneOf 8 = .ok (.getfield 57, 3) := by decide +kernel
theorem dX5_goneOf_11 : decode cX5_goneOf 11 = .ok (.if_icmp .ge 32, 3) := by decide +kernel
theorem dX5_goneOf_14 : decode cX5_goneOf 14 = .ok (.iload_n 3, 1) := by decide +kernel
theorem dX5_goneOf_15 : decode cX5_goneOf 15 = .ok (.aload_n 0, 1) := by decide +kernel
theorem dX5_goneOf_16 : decode cX5_goneOf 16 = .ok (.iload 4, 2) := by decide +kernel
theorem dX5_goneOf_18 : decode cX5_goneOf 18 = .ok (.iload_n 2, 1) := by decide +kernel
theorem dX5_goneOf_19 : decode cX5_goneOf 19 = .ok (.invokevirtual 126, 3) := by decide +kernel
theorem dX5_goneOf_22 : decode cX5_goneOf 22 = .ok (.iload_n 1, 1) := by decide +kernel
theorem dX5_goneOf_23 : decode cX5_goneOf 23 = .ok (.iand, 1) := by decide +kernel
theorem dX5_goneOf_24 : decode cX5_goneOf 24 = .ok (.ifCond .eq 10, 3) := by decide +kernel
theorem dX5_goneOf_27 : decode cX5_goneOf 27 = .ok (.iconst 1, 1) := by decide +kernel
theorem dX5_goneOf_28 : decode cX5_goneOf 28 = .ok (.iload 4, 2) := by decide +kernel
theorem dX5_goneOf_30 : decode cX5_goneOf 30 = .ok (.ishl, 1) := by decide +kernel
theorem dX5_goneOf_31 : decode cX5_goneOf 31 = .ok (.goto 4, 3) := by decide +kernel
theorem dX5_goneOf_34 : decode cX5_goneOf 34 = .ok (.iconst 0, 1) := by decide +kernel
theorem dX5_goneOf_35 : decode cX5_goneOf 35 = .ok (.ior, 1) := by decide +kernel
theorem dX5_goneOf_36 : decode cX5_goneOf 36 = .ok (.istore_n 3, 1) := by decide +kernel
theorem dX5_goneOf_37 : decode cX5_goneOf 37 = .ok (.iinc 4 1, 3) := by decide +kernel
theorem dX5_goneOf_40 : decode cX5_goneOf 40 = .ok (.goto (-35), 3) := by decide +kernel
theorem dX5_goneOf_43 : decode cX5_goneOf 43 = .ok (.iload_n 3, 1) := by decide +kernel
theorem dX5_goneOf_44 : decode cX5_goneOf 44 = .ok (.ireturn, 1) := by decide +kernel
set_option maxRecDepth 20000 in
theorem ggX5_letGo_X5_isSet : GoodIn wsX5_letGo wsX5_isSet := goodIn_r _ [6, 1, 39, 40, 41, 42, 43, 44, 45, 46, 47, 48, 49, 50, 51, 52, 53, 54, 55, 56, 57, 58, 59, 60, 61] (by decide +kernel) (by decide +kernel)
set_option maxRecDepth 20000 in
theorem gX5_letGo_X5_isSet : GoodIn wsX5_letGo (wsV RX5 138 RX5 yX5_isSet wsX5_isSet) := goodIn_app (goodIn_of _ (by decide +kernel)) ggX5_letGo_X5_isSet
set_option maxRecDepth 20000 in
theorem ggX5_letGo_X5_isDigit : GoodIn wsX5_letGo wsX5_isDigit := goodIn_r _ [9, 10, 11, 5, 12] (by decide +kernel) (by decide +kernel)
set_option maxRecDepth 20000 in
theorem gX5_letGo_X5_isDigit : GoodIn wsX5_letGo (va_wsS RX5 109 yX5_isDigit wsX5_isDigit) := goodIn_app (goodIn_of _ (by decide +kernel)) ggX5_letGo_X5_isDigit
set_option maxRecDepth 20000 in
theorem ggX5_letGo_X5_goneOf : GoodIn wsX5_letGo wsX5_goneOf := goodIn_r _ [16, 1, 17, 18, 19, 5, 20, 21, 22, 23, 24, 25, 26, 27, 28, 29, 30, 31, 32, 33, 34, 35, 36, 37, 38, 39, 40, 41, 42, 43, 44, 45, 46, 47, 48, 49, 50, 51, 52, 53, 54, 55, 56, 57, 58, 59, 60, 61] (by decide +kernel) (by decide +kernel)
set_option maxRecDepth 20000 in
theorem gX5_letGo_X5_goneOf : GoodIn wsX5_letGo (wsV RX5 141 RX5 yX5_goneOf wsX5_goneOf) := goodIn_app (goodIn_of _ (by decide +kernel)) ggX5_letGo_X5_goneOf
theorem dX5_letGo_0 : decode cX5_letGo 0 = .ok (.aload_n 0, 1) := by decide +kernel
theorem dX5_letGo_1 : decode cX5_letGo 1 = .ok (.getfield 57, 3) := by decide +kernel
theorem dX5_letGo_4 : decode cX5_letGo 4 = .ok (.ifCond .ne 6, 3) := by decide +kernel
theorem dX5_letGo_7 : decode cX5_letGo 7 = .ok (.bipush (-3), 2) := by decide +kernel
theorem dX5_letGo_9 : decode cX5_letGo 9 = .ok (.ireturn, 1) := by decide +kernel
theorem dX5_letGo_10 : decode cX5_letGo 10 = .ok (.aload_n 0, 1) := by decide +kernel
theorem dX5_letGo_11 : decode cX5_letGo 11 = .ok (.iload_n 1, 1) := by decide +kernel
theorem dX5_letGo_12 : decode cX5_letGo 12 = .ok (.invokevirtual 138, 3) := by decide +kernel
theorem dX5_letGo_15 : decode cX5_letGo 15 = .ok (.ifCond .eq 19, 3) := by decide +kernel
theorem dX5_letGo_18 : decode cX5_letGo 18 = .ok (.iload_n 2, 1) := by decide +kernel
theorem dX5_letGo_19 : decode cX5_letGo 19 = .ok (.invokestatic 109, 3) := by decide +kernel
theorem dX5_letGo_22 : decode cX5_letGo 22 = .ok (.ifCond .eq 12, 3) := by decide +kernel
theorem dX5_letGo_25 : decode cX5_letGo 25 = .ok (.aload_n 0, 1) := by decide +kernel
theorem dX5_letGo_26 : decode cX5_letGo 26 = .ok (.iload_n 1, 1) := by decide +kernel
theorem dX5_letGo_27 : decode cX5_letGo 27 = .ok (.iload_n 2, 1) := by decide +kernel
theorem dX5_letGo_28 : decode cX5_letGo 28 = .ok (.invokevirtual 141, 3) := by decide +kernel
theorem dX5_letGo_31 : decode cX5_letGo 31 = .ok (.goto 5, 3) := by decide +kernel
theorem dX5_letGo_34 : decode cX5_letGo 34 = .ok (.bipush (-2), 2) := by decide +kernel
theorem dX5_letGo_36 : decode cX5_letGo 36 = .ok (.ireturn, 1) := by decide +kernel
set_option maxRecDepth 20000 in
theorem ggX5_fewest_X5_isDigit : GoodIn wsX5_fewest wsX5_isDigit := goodIn_r _ [5, 6, 7, 4, 8] (by decide +kernel) (by decide +kernel)
set_option maxRecDepth 20000 in
theorem gX5_fewest_X5_isDigit : GoodIn wsX5_fewest (va_wsS RX5 109 yX5_isDigit wsX5_isDigit) := goodIn_app (goodIn_of _ (by decide +kernel)) ggX5_fewest_X5_isDigit
set_option maxRecDepth 20000 in
theorem ggX5_fewest_X5_size : GoodIn wsX5_fewest wsX5_size := goodIn_r _ [11] (by decide +kernel) (by decide +kernel)
set_option maxRecDepth 20000 in
theorem gX5_fewest_X5_size : GoodIn wsX5_fewest (va_wsS RX5 132 yX5_size wsX5_size) := goodIn_app (goodIn_of _ (by decide +kernel)) ggX5_fewest_X5_size
set_option maxRecDepth 20000 in
theorem ggX5_fewest_X5_goneOf : GoodIn wsX5_fewest wsX5_goneOf := goodIn_r _ [15, 1, 16, 17, 18, 4, 19, 20, 21, 22, 23, 24, 25, 26, 27, 28, 29, 30, 31, 32, 33, 34, 35, 36, 37, 38, 39, 40, 41, 42, 43, 44, 45, 46, 47, 48, 49, 50, 51, 52, 53, 54, 55, 56, 57, 58, 59, 60] (by decide +kernel) (by decide +kernel)
set_option maxRecDepth 20000 in
theorem gX5_fewest_X5_goneOf : GoodIn wsX5_fewest (wsV RX5 141 RX5 yX5_goneOf wsX5_goneOf) := goodIn_app (goodIn_of _ (by decide +kernel)) ggX5_fewest_X5_goneOf
theorem dX5_fewest_0 : decode cX5_fewest 0 = .ok (.iload_n 1, 1) := by decide +kernel
theorem dX5_fewest_1 : decode cX5_fewest 1 = .ok (.invokestatic 109, 3) := by decide +kernel
theorem dX5_fewest_4 : decode cX5_fewest 4 = .ok (.ifCond .ne 6, 3) := by decide +kernel
theorem dX5_fewest_7 : decode cX5_fewest 7 = .ok (.bipush (-2), 2) := by decide +kernel
theorem dX5_fewest_9 : decode cX5_fewest 9 = .ok (.ireturn, 1) := by decide +kernel
theorem dX5_fewest_10 : decode cX5_fewest 10 = .ok (.aload_n 0, 1) := by decide +kernel
theorem dX5_fewest_11 : decode cX5_fewest 11 = .ok (.getfield 57, 3) := by decide +kernel
theorem dX5_fewest_14 : decode cX5_fewest 14 = .ok (.ifCond .ne 6, 3) := by decide +kernel
theorem dX5_fewest_17 : decode cX5_fewest 17 = .ok (.bipush (-3), 2) := by decide +kernel
theorem dX5_fewest_19 : decode cX5_fewest 19 = .ok (.ireturn, 1) := by decide +kernel
theorem dX5_fewest_20 : decode cX5_fewest 20 = .ok (.bipush (-9), 2) := by decide +kernel
theorem dX5_fewest_22 : decode cX5_fewest 22 = .ok (.istore_n 2, 1) := by decide +kernel
theorem dX5_fewest_23 : decode cX5_fewest 23 = .ok (.iconst 0, 1) := by decide +kernel
theorem dX5_fewest_24 : decode cX5_fewest 24 = .ok (.istore_n 3, 1) := by decide +kernel
theorem dX5_fewest_25 : decode cX5_fewest 25 = .ok (.iload_n 3, 1) := by decide +kernel
theorem dX5_fewest_26 : decode cX5_fewest 26 = .ok (.iconst 1, 1) := by decide +kernel
theorem dX5_fewest_27 : decode cX5_fewest 27 = .ok (.aload_n 0, 1) := by decide +kernel
theorem dX5_fewest_28 : decode cX5_fewest 28 = .ok (.getfield 57, 3) := by decide +kernel
theorem dX5_fewest_31 : decode cX5_fewest 31 = .ok (.ishl, 1) := by decide +kernel
theorem dX5_fewest_32 : decode cX5_fewest 32 = .ok (.if_icmp .ge 45, 3) := by decide +kernel
theorem dX5_fewest_35 : decode cX5_fewest 35 = .ok (.iload_n 2, 1) := by decide +kernel
theorem dX5_fewest_36 : decode cX5_fewest 36 = .ok (.bipush (-9), 2) := by decide +kernel
theorem dX5_fewest_38 : decode cX5_fewest 38 = .ok (.if_icmp .eq 14, 3) := by decide +kernel
theorem dX5_fewest_41 : decode cX5_fewest 41 = .ok (.iload_n 3, 1) := by decide +kernel
theorem dX5_fewest_42 : decode cX5_fewest 42 = .ok (.invokestatic 132, 3) := by decide +kernel
theorem dX5_fewest_45 : decode cX5_fewest 45 = .ok (.iload_n 2, 1) := by decide +kernel
theorem dX5_fewest_46 : decode cX5_fewest 46 = .ok (.invokestatic 132, 3) := by decide +kernel
theorem dX5_fewest_49 : decode cX5_fewest 49 = .ok (.if_icmp .ge 22, 3) := by decide +kernel
theorem dX5_fewest_52 : decode cX5_fewest 52 = .ok (.aload_n 0, 1) := by decide +kernel
theorem dX5_fewest_53 : decode cX5_fewest 53 = .ok (.iload_n 3, 1) := by decide +kernel
theorem dX5_fewest_54 : decode cX5_fewest 54 = .ok (.iload_n 1, 1) := by decide +kernel
theorem dX5_fewest_55 : decode cX5_fewest 55 = .ok (.invokevirtual 141, 3) := by decide +kernel
theorem dX5_fewest_58 : decode cX5_fewest 58 = .ok (.iconst 1, 1) := by decide +kernel
theorem dX5_fewest_59 : decode cX5_fewest 59 = .ok (.aload_n 0, 1) := by decide +kernel
theorem dX5_fewest_60 : decode cX5_fewest 60 = .ok (.getfield 57, 3) := by decide +kernel
theorem dX5_fewest_63 : decode cX5_fewest 63 = .ok (.ishl, 1) := by decide +kernel
theorem dX5_fewest_64 : decode cX5_fewest 64 = .ok (.iconst 1, 1) := by decide +kernel
theorem dX5_fewest_65 : decode cX5_fewest 65 = .ok (.isub, 1) := by decide +kernel
theorem dX5_fewest_66 : decode cX5_fewest 66 = .ok (.if_icmp .ne 5, 3) := by decide +kernel
theorem dX5_fewest_69 : decode cX5_fewest 69 = .ok (.iload_n 3, 1) := by decide +kernel
theorem dX5_fewest_70 : decode cX5_fewest 70 = .ok (.istore_n 2, 1) := by decide +kernel
theorem dX5_fewest_71 : decode cX5_fewest 71 = .ok (.iinc 3 1, 3) := by decide +kernel
theorem dX5_fewest_74 : decode cX5_fewest 74 = .ok (.goto (-49), 3) := by decide +kernel
theorem dX5_fewest_77 : decode cX5_fewest 77 = .ok (.iload_n 2, 1) := by decide +kernel
theorem dX5_fewest_78 : decode cX5_fewest 78 = .ok (.ireturn, 1) := by decide +kernel
set_option maxRecDepth 20000 in
theorem ggX5_voyages_X5_isSheet : GoodIn wsX5_voyages wsX5_isSheet := goodIn_r _ [7, 8, 9, 6, 10] (by decide +kernel) (by decide +kernel)
set_option maxRecDepth 20000 in
theorem gX5_voyages_X5_isSheet : GoodIn wsX5_voyages (va_wsS RX5 63 yX5_isSheet wsX5_isSheet) := goodIn_app (goodIn_of _ (by decide +kernel)) ggX5_voyages_X5_isSheet
set_option maxRecDepth 20000 in
theorem ggX5_voyages_X5_isSort : GoodIn wsX5_voyages wsX5_isSort := goodIn_r _ [13, 8, 9, 6, 10] (by decide +kernel) (by decide +kernel)
set_option maxRecDepth 20000 in
theorem gX5_voyages_X5_isSort : GoodIn wsX5_voyages (va_wsS RX5 67 yX5_isSort wsX5_isSort) := goodIn_app (goodIn_of _ (by decide +kernel)) ggX5_voyages_X5_isSort
set_option maxRecDepth 20000 in
theorem ggX5_voyages_X5_within : GoodIn wsX5_voyages wsX5_within := goodIn_r _ [10] (by decide +kernel) (by decide +kernel)
set_option maxRecDepth 20000 in
theorem gX5_voyages_X5_within : GoodIn wsX5_voyages (va_wsS RX5 53 yX5_within wsX5_within) := goodIn_app (goodIn_of _ (by decide +kernel)) ggX5_voyages_X5_within
set_option maxRecDepth 20000 in
theorem ggX5_voyages_X5_against : GoodIn wsX5_voyages wsX5_against := goodIn_r _ [17, 18, 19, 69, 70, 71, 72, 73, 74, 75, 76, 77, 78, 79, 80, 81, 82, 83, 84, 85, 86, 87, 88, 89, 90, 91] (by decide +kernel) (by decide +kernel)
set_option maxRecDepth 20000 in
theorem gX5_voyages_X5_against : GoodIn wsX5_voyages (wsV RX5 70 RX5 yX5_against wsX5_against) := goodIn_app (goodIn_of _ (by decide +kernel)) ggX5_voyages_X5_against
set_option maxRecDepth 20000 in
theorem ggX5_voyages_X5_fails : GoodIn wsX5_voyages wsX5_fails := goodIn_r _ [23, 1, 69, 70, 71, 72, 73, 74, 75, 76, 77, 78, 79, 80, 81, 82, 83, 84, 85, 86, 87, 88, 89, 90, 91] (by decide +kernel) (by decide +kernel)
set_option maxRecDepth 20000 in
theorem gX5_voyages_X5_fails : GoodIn wsX5_voyages (wsV RX5 74 RX5 yX5_fails wsX5_fails) := goodIn_app (goodIn_of _ (by decide +kernel)) ggX5_voyages_X5_fails
set_option maxRecDepth 20000 in
theorem ggX5_voyages_X5_isSet : GoodIn wsX5_voyages wsX5_isSet := goodIn_r _ [27, 2, 69, 70, 71, 72, 73, 74, 75, 76, 77, 78, 79, 80, 81, 82, 83, 84, 85, 86, 87, 88, 89, 90, 91] (by decide +kernel) (by decide +kernel)
set_option maxRecDepth 20000 in
theorem gX5_voyages_X5_isSet : GoodIn wsX5_voyages (wsV RX5 138 RX5 yX5_isSet wsX5_isSet) := goodIn_app (goodIn_of _ (by decide +kernel)) ggX5_voyages_X5_isSet
set_option maxRecDepth 20000 in
theorem ggX5_voyages_X5_isPass : GoodIn wsX5_voyages wsX5_isPass := goodIn_r _ [31, 2, 69, 70, 71, 72, 73, 74, 75, 76, 77, 78, 79, 80, 81, 82, 83, 84, 85, 86, 87, 88, 89, 90, 91] (by decide +kernel) (by decide +kernel)
set_option maxRecDepth 20000 in
theorem gX5_voyages_X5_isPass : GoodIn wsX5_voyages (wsV RX5 103 RX5 yX5_isPass wsX5_isPass) := goodIn_app (goodIn_of _ (by decide +kernel)) ggX5_voyages_X5_isPass
set_option maxRecDepth 20000 in
theorem ggX5_voyages_X5_isDigit : GoodIn wsX5_voyages wsX5_isDigit := goodIn_r _ [34, 8, 9, 6, 10] (by decide +kernel) (by decide +kernel)
set_option maxRecDepth 20000 in
theorem gX5_voyages_X5_isDigit : GoodIn wsX5_voyages (va_wsS RX5 109 yX5_isDigit wsX5_isDigit) := goodIn_app (goodIn_of _ (by decide +kernel)) ggX5_voyages_X5_isDigit
set_option maxRecDepth 20000 in
theorem ggX5_voyages_X5_goVoyages : GoodIn wsX5_voyages wsX5_goVoyages := goodIn_r _ [38, 39, 40, 41, 42, 3, 43, 44, 45, 6, 46, 2, 47, 48, 49, 50, 51, 52, 53, 54, 55, 56, 57, 58, 59, 60, 61, 62, 63, 64, 69, 70, 71, 72, 73, 74, 75, 76, 77, 78, 79, 80, 81, 82, 83, 84, 85, 86, 87, 88, 89, 90, 91] (by decide +kernel) (by decide +kernel)
set_option maxRecDepth 20000 in
theorem gX5_voyages_X5_goVoyages : GoodIn wsX5_voyages (wsV RX5 144 RX5 yX5_goVoyages wsX5_goVoyages) := goodIn_app (goodIn_of _ (by decide +kernel)) ggX5_voyages_X5_goVoyages
set_option maxRecDepth 20000 in
theorem ggX5_voyages_X5_tellVoyages : GoodIn wsX5_voyages wsX5_tellVoyages := goodIn_r _ [68, 42, 39, 40, 41, 28, 29, 30, 6, 31, 2, 69, 70, 71, 72, 73, 74, 75, 76, 77, 78, 79, 80, 81, 82, 83, 84, 85, 86, 87, 88, 89, 90, 91] (by decide +kernel) (by decide +kernel)
set_option maxRecDepth 20000 in
theorem gX5_voyages_X5_tellVoyages : GoodIn wsX5_voyages (wsV RX5 147 RX5 yX5_tellVoyages wsX5_tellVoyages) := goodIn_app (goodIn_of _ (by decide +kernel)) ggX5_voyages_X5_tellVoyages
theorem dX5_voyages_0 : decode cX5_voyages 0 = .ok (.aload_n 0, 1) := by decide +kernel
theorem dX5_voyages_1 : decode cX5_voyages 1 = .ok (.iconst 0, 1) := by decide +kernel
theorem dX5_voyages_2 : decode cX5_voyages 2 = .ok (.putfield 47, 3) := by decide +kernel
theorem dX5_voyages_5 : decode cX5_voyages 5 = .ok (.iload_n 2, 1) := by decide +kernel
theorem dX5_voyages_6 : decode cX5_voyages 6 = .ok (.invokestatic 63, 3) := by decide +kernel
theorem dX5_voyages_9 : decode cX5_voyages 9 = .ok (.ifCond .ne 5, 3) := by decide +kernel
theorem dX5_voyages_12 : decode cX5_voyages 12 = .ok (.iconst (-1), 1) := by decide +kernel
theorem dX5_voyages_13 : decode cX5_voyages 13 = .ok (.ireturn, 1) := by decide +kernel
theorem dX5_voyages_14 : decode cX5_voyages 14 = .ok (.iload_n 3, 1) := by decide +kernel
theorem dX5_voyages_15 : decode cX5_voyages 15 = .ok (.invokestatic 67, 3) := by decide +kernel
theorem dX5_voyages_18 : decode cX5_voyages 18 = .ok (.ifCond .eq 36, 3) := by decide +kernel
theorem dX5_voyages_21 : decode cX5_voyages 21 = .ok (.iload 5, 2) := by decide +kernel
theorem dX5_voyages_23 : decode cX5_voyages 23 = .ok (.iconst 0, 1) := by decide +kernel
theorem dX5_voyages_24 : decode cX5_voyages 24 = .ok (.bipush 20, 2) := by decide +kernel
theorem dX5_voyages_26 : decode cX5_voyages 26 = .ok (.invokestatic 53, 3) := by decide +kernel
theorem dX5_voyages_29 : decode cX5_voyages 29 = .ok (.ifCond .eq 25, 3) := by decide +kernel
theorem dX5_voyages_32 : decode cX5_voyages 32 = .ok (.iload 6, 2) := by decide +kernel
theorem dX5_voyages_34 : decode cX5_voyages 34 = .ok (.iconst 0, 1) := by decide +kernel
theorem dX5_voyages_35 : decode cX5_voyages 35 = .ok (.iconst 3, 1) := by decide +kernel
theorem dX5_voyages_36 : decode cX5_voyages 36 = .ok (.invokestatic 53, 3) := by decide +kernel
theorem dX5_voyages_39 : decode cX5_voyages 39 = .ok (.ifCond .ne 18, 3) := by decide +kernel
theorem dX5_voyages_42 : decode cX5_voyages 42 = .ok (.iload 6, 2) := by decide +kernel
theorem dX5_voyages_44 : decode cX5_voyages 44 = .ok (.bipush 10, 2) := by decide +kernel
theorem dX5_voyages_46 : decode cX5_voyages 46 = .ok (.bipush 15, 2) := by decide +kernel
theorem dX5_voyages_48 : decode cX5_voyages 48 = .ok (.invokestatic 53, 3) := by decide +kernel
theorem dX5_voyages_51 : decode cX5_voyages 51 = .ok (.ifCond .ne 6, 3) := by decide +kernel
theorem dX5_voyages_54 : decode cX5_voyages 54 = .ok (.bipush (-2), 2) := by decide +kernel
theorem dX5_voyages_56 : decode cX5_voyages 56 = .ok (.ireturn, 1) := by decide +kernel
theorem dX5_voyages_57 : decode cX5_voyages 57 = .ok (.aload_n 0, 1) := by decide +kernel
theorem dX5_voyages_58 : decode cX5_voyages 58 = .ok (.iload_n 2, 1) := by decide +kernel
theorem dX5_voyages_59 : decode cX5_voyages 59 = .ok (.iload_n 3, 1) := by decide +kernel
theorem dX5_voyages_60 : decode cX5_voyages 60 = .ok (.iload 4, 2) := by decide +kernel
theorem dX5_voyages_62 : decode cX5_voyages 62 = .ok (.iconst 2, 1) := by decide +kernel
theorem dX5_voyages_63 : decode cX5_voyages 63 = .ok (.iload 5, 2) := by decide +kernel
theorem dX5_voyages_65 : decode cX5_voyages 65 = .ok (.imul, 1) := by decide +kernel
theorem dX5_voyages_66 : decode cX5_voyages 66 = .ok (.invokevirtual 70, 3) := by decide +kernel
theorem dX5_voyages_69 : decode cX5_voyages 69 = .ok (.istore 7, 2) := by decide +kernel
theorem dX5_voyages_71 : decode cX5_voyages 71 = .ok (.iload 7, 2) := by decide +kernel
theorem dX5_voyages_73 : decode cX5_voyages 73 = .ok (.ifCond .eq 10, 3) := by decide +kernel
theorem dX5_voyages_76 : decode cX5_voyages 76 = .ok (.aload_n 0, 1) := by decide +kernel
theorem dX5_voyages_77 : decode cX5_voyages 77 = .ok (.iload 7, 2) := by decide +kernel
theorem dX5_voyages_79 : decode cX5_voyages 79 = .ok (.invokevirtual 74, 3) := by decide +kernel
theorem dX5_voyages_82 : decode cX5_voyages 82 = .ok (.ireturn, 1) := by decide +kernel
theorem dX5_voyages_83 : decode cX5_voyages 83 = .ok (.aload_n 0, 1) := by decide +kernel
theorem dX5_voyages_84 : decode cX5_voyages 84 = .ok (.getfield 57, 3) := by decide +kernel
theorem dX5_voyages_87 : decode cX5_voyages 87 = .ok (.ifCond .ne 6, 3) := by decide +kernel
theorem dX5_voyages_90 : decode cX5_voyages 90 = .ok (.bipush (-3), 2) := by decide +kernel
theorem dX5_voyages_92 : decode cX5_voyages 92 = .ok (.ireturn, 1) := by decide +kernel
theorem dX5_voyages_93 : decode cX5_voyages 93 = .ok (.aload_n 0, 1) := by decide +kernel
theorem dX5_voyages_94 : decode cX5_voyages 94 = .ok (.iload_n 1, 1) := by decide +kernel
theorem dX5_voyages_95 : decode cX5_voyages 95 = .ok (.invokevirtual 138, 3) := by decide +kernel
theorem dX5_voyages_98 : decode cX5_voyages 98 = .ok (.ifCond .ne 6, 3) := by decide +kernel
theorem dX5_voyages_101 : decode cX5_voyages 101 = .ok (.bipush (-2), 2) := by decide +kernel
theorem dX5_voyages_103 : decode cX5_voyages 103 = .ok (.ireturn, 1) := by decide +kernel
theorem dX5_voyages_104 : decode cX5_voyages 104 = .ok (.bipush 60, 2) := by decide +kernel
theorem dX5_voyages_106 : decode cX5_voyages 106 = .ok (.iload_n 2, 1) := by decide +kernel
theorem dX5_voyages_107 : decode cX5_voyages 107 = .ok (.imul, 1) := by decide +kernel
theorem dX5_voyages_108 : decode cX5_voyages 108 = .ok (.iload 4, 2) := by decide +kernel
theorem dX5_voyages_110 : decode cX5_voyages 110 = .ok (.iadd, 1) := by decide +kernel
theorem dX5_voyages_111 : decode cX5_voyages 111 = .ok (.istore 8, 2) := by decide +kernel
theorem dX5_voyages_113 : decode cX5_voyages 113 = .ok (.iconst 0, 1) := by decide +kernel
theorem dX5_voyages_114 : decode cX5_voyages 114 = .ok (.istore 9, 2) := by decide +kernel
theorem dX5_voyages_116 : decode cX5_voyages 116 = .ok (.iload 9, 2) := by decide +kernel
theorem dX5_voyages_118 : decode cX5_voyages 118 = .ok (.iload 5, 2) := by decide +kernel
theorem dX5_voyages_120 : decode cX5_voyages 120 = .ok (.if_icmp .ge 53, 3) := by decide +kernel
theorem dX5_voyages_123 : decode cX5_voyages 123 = .ok (.aload_n 0, 1) := by decide +kernel
theorem dX5_voyages_124 : decode cX5_voyages 124 = .ok (.aload_n 0, 1) := by decide +kernel
theorem dX5_voyages_125 : decode cX5_voyages 125 = .ok (.getfield 16, 3) := by decide +kernel
theorem dX5_voyages_128 : decode cX5_voyages 128 = .ok (.iload 8, 2) := by decide +kernel
theorem dX5_voyages_130 : decode cX5_voyages 130 = .ok (.iconst 2, 1) := by decide +kernel
theorem dX5_voyages_131 : decode cX5_voyages 131 = .ok (.iload 9, 2) := by decide +kernel
theorem dX5_voyages_133 : decode cX5_voyages 133 = .ok (.imul, 1) := by decide +kernel
theorem dX5_voyages_134 : decode cX5_voyages 134 = .ok (.iadd, 1) := by decide +kernel
theorem dX5_voyages_135 : decode cX5_voyages 135 = .ok (.iaload, 1) := by decide +kernel
theorem dX5_voyages_136 : decode cX5_voyages 136 = .ok (.invokevirtual 103, 3) := by decide +kernel
theorem dX5_voyages_139 : decode cX5_voyages 139 = .ok (.ifCond .ne 5, 3) := by decide +kernel
theorem dX5_voyages_142 : decode cX5_voyages 142 = .ok (.iconst (-1), 1) := by decide +kernel
theorem dX5_voyages_143 : decode cX5_voyages 143 = .ok (.ireturn, 1) := by decide +kernel
theorem dX5_voyages_144 : decode cX5_voyages 144 = .ok (.aload_n 0, 1) := by decide +kernel
theorem dX5_voyages_145 : decode cX5_voyages 145 = .ok (.getfield 16, 3) := by decide +kernel
theorem dX5_voyages_148 : decode cX5_voyages 148 = .ok (.iload 8, 2) := by decide +kernel
theorem dX5_voyages_150 : decode cX5_voyages 150 = .ok (.iconst 2, 1) := by decide +kernel
theorem dX5_voyages_151 : decode cX5_voyages 151 = .ok (.iload 9, 2) := by decide +kernel
theorem dX5_voyages_153 : decode cX5_voyages 153 = .ok (.imul, 1) := by decide +kernel
theorem dX5_voyages_154 : decode cX5_voyages 154 = .ok (.iadd, 1) := by decide +kernel
theorem dX5_voyages_155 : decode cX5_voyages 155 = .ok (.iconst 1, 1) := by decide +kernel
theorem dX5_voyages_156 : decode cX5_voyages 156 = .ok (.iadd, 1) := by decide +kernel
theorem dX5_voyages_157 : decode cX5_voyages 157 = .ok (.iaload, 1) := by decide +kernel
theorem dX5_voyages_158 : decode cX5_voyages 158 = .ok (.invokestatic 109, 3) := by decide +kernel
theorem dX5_voyages_161 : decode cX5_voyages 161 = .ok (.ifCond .ne 6, 3) := by decide +kernel
theorem dX5_voyages_164 : decode cX5_voyages 164 = .ok (.bipush (-2), 2) := by decide +kernel
theorem dX5_voyages_166 : decode cX5_voyages 166 = .ok (.ireturn, 1) := by decide +kernel
theorem dX5_voyages_167 : decode cX5_voyages 167 = .ok (.iinc 9 1, 3) := by decide +kernel
theorem dX5_voyages_170 : decode cX5_voyages 170 = .ok (.goto (-54), 3) := by decide +kernel
theorem dX5_voyages_173 : decode cX5_voyages 173 = .ok (.aload_n 0, 1) := by decide +kernel
theorem dX5_voyages_174 : decode cX5_voyages 174 = .ok (.iload_n 1, 1) := by decide +kernel
theorem dX5_voyages_175 : decode cX5_voyages 175 = .ok (.iload 8, 2) := by decide +kernel
theorem dX5_voyages_177 : decode cX5_voyages 177 = .ok (.iload 5, 2) := by decide +kernel
theorem dX5_voyages_179 : decode cX5_voyages 179 = .ok (.invokevirtual 144, 3) := by decide +kernel
theorem dX5_voyages_182 : decode cX5_voyages 182 = .ok (.istore 9, 2) := by decide +kernel
theorem dX5_voyages_184 : decode cX5_voyages 184 = .ok (.iload 6, 2) := by decide +kernel
theorem dX5_voyages_186 : decode cX5_voyages 186 = .ok (.iconst 1, 1) := by decide +kernel
theorem dX5_voyages_187 : decode cX5_voyages 187 = .ok (.if_icmp .ne 6, 3) := by decide +kernel
theorem dX5_voyages_190 : decode cX5_voyages 190 = .ok (.iload 9, 2) := by decide +kernel
theorem dX5_voyages_192 : decode cX5_voyages 192 = .ok (.ireturn, 1) := by decide +kernel
theorem dX5_voyages_193 : decode cX5_voyages 193 = .ok (.iload 9, 2) := by decide +kernel
theorem dX5_voyages_195 : decode cX5_voyages 195 = .ok (.bipush (-9), 2) := by decide +kernel
theorem dX5_voyages_197 : decode cX5_voyages 197 = .ok (.if_icmp .ne 12, 3) := by decide +kernel
theorem dX5_voyages_200 : decode cX5_voyages 200 = .ok (.aload_n 0, 1) := by decide +kernel
theorem dX5_voyages_201 : decode cX5_voyages 201 = .ok (.iload 6, 2) := by decide +kernel
theorem dX5_voyages_203 : decode cX5_voyages 203 = .ok (.invokevirtual 147, 3) := by decide +kernel
theorem dX5_voyages_206 : decode cX5_voyages 206 = .ok (.goto 8, 3) := by decide +kernel
theorem dX5_voyages_209 : decode cX5_voyages 209 = .ok (.bipush (-100), 2) := by decide +kernel
theorem dX5_voyages_211 : decode cX5_voyages 211 = .ok (.iload 9, 2) := by decide +kernel
theorem dX5_voyages_213 : decode cX5_voyages 213 = .ok (.isub, 1) := by decide +kernel
theorem dX5_voyages_214 : decode cX5_voyages 214 = .ok (.ireturn, 1) := by decide +kernel
set_option maxRecDepth 20000 in
theorem ggX5_goVoyages_X5_fitsOf : GoodIn wsX5_goVoyages wsX5_fitsOf := goodIn_r _ [10, 11, 12, 13, 14, 9, 15, 16, 17, 18, 19, 20, 21, 22, 23, 24, 25, 26, 27, 28, 29, 30, 31, 32, 33, 34, 35, 36, 37, 38, 39, 40, 41, 42, 43, 44, 45, 46, 47, 48, 49, 50, 51, 52] (by decide +kernel) (by decide +kernel)
set_option maxRecDepth 20000 in
theorem gX5_goVoyages_X5_fitsOf : GoodIn wsX5_goVoyages (wsV RX5 126 RX5 yX5_fitsOf wsX5_fitsOf) := goodIn_app (goodIn_of _ (by decide +kernel)) ggX5_goVoyages_X5_fitsOf
set_option maxRecDepth 20000 in
theorem ggX5_goVoyages_X5_isFit : GoodIn wsX5_goVoyages wsX5_isFit := goodIn_r _ [15, 16, 17, 18, 19, 9, 20, 21, 22, 23, 24, 25, 26, 27, 28, 29, 30, 31, 32, 33, 34, 35, 36, 37, 38, 39, 40, 41, 42, 43, 44, 45, 46, 47, 48, 49, 50, 51, 52] (by decide +kernel) (by decide +kernel)
set_option maxRecDepth 20000 in
theorem gX5_goVoyages_X5_isFit : GoodIn wsX5_goVoyages (wsV RX5 123 RX5 yX5_isFit wsX5_isFit) := goodIn_app (goodIn_of _ (by decide +kernel)) ggX5_goVoyages_X5_isFit
theorem dX5_goVoyages_0 : decode cX5_goVoyages 0 = .ok (.aload_n 0, 1) := by decide +kernel
theorem dX5_goVoyages_1 : decode cX5_goVoyages 1 = .ok (.iconst 0, 1) := by decide +kernel
theorem dX5_goVoyages_2 : decode cX5_goVoyages 2 = .ok (.putfield 150, 3) := by decide +kernel
theorem dX5_goVoyages_5 : decode cX5_goVoyages 5 = .ok (.aload_n 0, 1) := by decide +kernel
theorem dX5_goVoyages_6 : decode cX5_goVoyages 6 = .ok (.bipush (-9), 2) := by decide +kernel
theorem dX5_goVoyages_8 : decode cX5_goVoyages 8 = .ok (.putfield 153, 3) := by decide +kernel
theorem dX5_goVoyages_11 : decode cX5_goVoyages 11 = .ok (.aload_n 0, 1) := by decide +kernel
theorem dX5_goVoyages_12 : decode cX5_goVoyages 12 = .ok (.iconst 0, 1) := by decide +kernel
theorem dX5_goVoyages_13 : decode cX5_goVoyages 13 = .ok (.putfield 156, 3) := by decide +kernel
theorem dX5_goVoyages_16 : decode cX5_goVoyages 16 = .ok (.iconst 0, 1) := by decide +kernel
theorem dX5_goVoyages_17 : decode cX5_goVoyages 17 = .ok (.istore 4, 2) := by decide +kernel
theorem dX5_goVoyages_19 : decode cX5_goVoyages 19 = .ok (.iload 4, 2) := by decide +kernel
theorem dX5_goVoyages_21 : decode cX5_goVoyages 21 = .ok (.bipush 6, 2) := by decide +kernel
theorem dX5_goVoyages_23 : decode cX5_goVoyages 23 = .ok (.if_icmp .ge 17, 3) := by decide +kernel
theorem dX5_goVoyages_26 : decode cX5_goVoyages 26 = .ok (.aload_n 0, 1) := by decide +kernel
theorem dX5_goVoyages_27 : decode cX5_goVoyages 27 = .ok (.getfield 31, 3) := by decide +kernel
theorem dX5_goVoyages_30 : decode cX5_goVoyages 30 = .ok (.iload 4, 2) := by decide +kernel
theorem dX5_goVoyages_32 : decode cX5_goVoyages 32 = .ok (.iconst 0, 1) := by decide +kernel
theorem dX5_goVoyages_33 : decode cX5_goVoyages 33 = .ok (.iastore, 1) := by decide +kernel
theorem dX5_goVoyages_34 : decode cX5_goVoyages 34 = .ok (.iinc 4 1, 3) := by decide +kernel
theorem dX5_goVoyages_37 : decode cX5_goVoyages 37 = .ok (.goto (-18), 3) := by decide +kernel
theorem dX5_goVoyages_40 : decode cX5_goVoyages 40 = .ok (.iconst 0, 1) := by decide +kernel
theorem dX5_goVoyages_41 : decode cX5_goVoyages 41 = .ok (.istore 4, 2) := by decide +kernel
theorem dX5_goVoyages_43 : decode cX5_goVoyages 43 = .ok (.iload 4, 2) := by decide +kernel
theorem dX5_goVoyages_45 : decode cX5_goVoyages 45 = .ok (.iload_n 3, 1) := by decide +kernel
theorem dX5_goVoyages_46 : decode cX5_goVoyages 46 = .ok (.if_icmp .ge 149, 3) := by decide +kernel
theorem dX5_goVoyages_49 : decode cX5_goVoyages 49 = .ok (.aload_n 0, 1) := by decide +kernel
theorem dX5_goVoyages_50 : decode cX5_goVoyages 50 = .ok (.getfield 16, 3) := by decide +kernel
theorem dX5_goVoyages_53 : decode cX5_goVoyages 53 = .ok (.iload_n 2, 1) := by decide +kernel
theorem dX5_goVoyages_54 : decode cX5_goVoyages 54 = .ok (.iconst 2, 1) := by decide +kernel
theorem dX5_goVoyages_55 : decode cX5_goVoyages 55 = .ok (.iload 4, 2) := by decide +kernel
theorem dX5_goVoyages_57 : decode cX5_goVoyages 57 = .ok (.imul, 1) := by decide +kernel
theorem dX5_goVoyages_58 : decode cX5_goVoyages 58 = .ok (.iadd, 1) := by decide +kernel
theorem dX5_goVoyages_59 : decode cX5_goVoyages 59 = .ok (.iaload, 1) := by decide +kernel
theorem dX5_goVoyages_60 : decode cX5_goVoyages 60 = .ok (.istore 5, 2) := by decide +kernel
theorem dX5_goVoyages_62 : decode cX5_goVoyages 62 = .ok (.aload_n 0, 1) := by decide +kernel
theorem dX5_goVoyages_63 : decode cX5_goVoyages 63 = .ok (.getfield 16, 3) := by decide +kernel
theorem dX5_goVoyages_66 : decode cX5_goVoyages 66 = .ok (.iload_n 2, 1) := by decide +kernel
theorem dX5_goVoyages_67 : decode cX5_goVoyages 67 = .ok (.iconst 2, 1) := by decide +kernel
theorem dX5_goVoyages_68 : decode cX5_goVoyages 68 = .ok (.iload 4, 2) := by decide +kernel
theorem dX5_goVoyages_70 : decode cX5_goVoyages 70 = .ok (.imul, 1) := by decide +kernel
theorem dX5_goVoyages_71 : decode cX5_goVoyages 71 = .ok (.iadd, 1) := by decide +kernel
theorem dX5_goVoyages_72 : decode cX5_goVoyages 72 = .ok (.iconst 1, 1) := by decide +kernel
theorem dX5_goVoyages_73 : decode cX5_goVoyages 73 = .ok (.iadd, 1) := by decide +kernel
theorem dX5_goVoyages_74 : decode cX5_goVoyages 74 = .ok (.iaload, 1) := by decide +kernel
theorem dX5_goVoyages_75 : decode cX5_goVoyages 75 = .ok (.istore 6, 2) := by decide +kernel
theorem dX5_goVoyages_77 : decode cX5_goVoyages 77 = .ok (.iload 4, 2) := by decide +kernel
theorem dX5_goVoyages_79 : decode cX5_goVoyages 79 = .ok (.ifCond .le 24, 3) := by decide +kernel
theorem dX5_goVoyages_82 : decode cX5_goVoyages 82 = .ok (.iload 6, 2) := by decide +kernel
theorem dX5_goVoyages_84 : decode cX5_goVoyages 84 = .ok (.aload_n 0, 1) := by decide +kernel
theorem dX5_goVoyages_85 : decode cX5_goVoyages 85 = .ok (.getfield 16, 3) := by decide +kernel
theorem dX5_goVoyages_88 : decode cX5_goVoyages 88 = .ok (.iload_n 2, 1) := by decide +kernel
theorem dX5_goVoyages_89 : decode cX5_goVoyages 89 = .ok (.iconst 2, 1) := by decide +kernel
theorem dX5_goVoyages_90 : decode cX5_goVoyages 90 = .ok (.iload 4, 2) := by decide +kernel
theorem dX5_goVoyages_92 : decode cX5_goVoyages 92 = .ok (.imul, 1) := by decide +kernel
theorem dX5_goVoyages_93 : decode cX5_goVoyages 93 = .ok (.iadd, 1) := by decide +kernel
theorem dX5_goVoyages_94 : decode cX5_goVoyages 94 = .ok (.iconst 1, 1) := by decide +kernel
theorem dX5_goVoyages_95 : decode cX5_goVoyages 95 = .ok (.isub, 1) := by decide +kernel
theorem dX5_goVoyages_96 : decode cX5_goVoyages 96 = .ok (.iaload, 1) := by decide +kernel
theorem dX5_goVoyages_97 : decode cX5_goVoyages 97 = .ok (.if_icmp .ge 6, 3) := by decide +kernel
theorem dX5_goVoyages_100 : decode cX5_goVoyages 100 = .ok (.iload 4, 2) := by decide +kernel
theorem dX5_goVoyages_102 : decode cX5_goVoyages 102 = .ok (.ireturn, 1) := by decide +kernel
theorem dX5_goVoyages_103 : decode cX5_goVoyages 103 = .ok (.aload_n 0, 1) := by decide +kernel
theorem dX5_goVoyages_104 : decode cX5_goVoyages 104 = .ok (.iload 5, 2) := by decide +kernel
theorem dX5_goVoyages_106 : decode cX5_goVoyages 106 = .ok (.iload 6, 2) := by decide +kernel
theorem dX5_goVoyages_108 : decode cX5_goVoyages 108 = .ok (.invokevirtual 126, 3) := by decide +kernel
theorem dX5_goVoyages_111 : decode cX5_goVoyages 111 = .ok (.iload_n 1, 1) := by decide +kernel
theorem dX5_goVoyages_112 : decode cX5_goVoyages 112 = .ok (.iand, 1) := by decide +kernel
theorem dX5_goVoyages_113 : decode cX5_goVoyages 113 = .ok (.ifCond .eq 16, 3) := by decide +kernel
theorem dX5_goVoyages_116 : decode cX5_goVoyages 116 = .ok (.aload_n 0, 1) := by decide +kernel
theorem dX5_goVoyages_117 : decode cX5_goVoyages 117 = .ok (.dup, 1) := by decide +kernel
theorem dX5_goVoyages_118 : decode cX5_goVoyages 118 = .ok (.getfield 150, 3) := by decide +kernel
theorem dX5_goVoyages_121 : decode cX5_goVoyages 121 = .ok (.iconst 1, 1) := by decide +kernel
theorem dX5_goVoyages_122 : decode cX5_goVoyages 122 = .ok (.iadd, 1) := by decide +kernel
theorem dX5_goVoyages_123 : decode cX5_goVoyages 123 = .ok (.putfield 150, 3) := by decide +kernel
theorem dX5_goVoyages_126 : decode cX5_goVoyages 126 = .ok (.goto 63, 3) := by decide +kernel
theorem dX5_goVoyages_129 : decode cX5_goVoyages 129 = .ok (.aload_n 0, 1) := by decide +kernel
theorem dX5_goVoyages_130 : decode cX5_goVoyages 130 = .ok (.aload_n 0, 1) := by decide +kernel
theorem dX5_goVoyages_131 : decode cX5_goVoyages 131 = .ok (.getfield 153, 3) := by decide +kernel
theorem dX5_goVoyages_134 : decode cX5_goVoyages 134 = .ok (.bipush (-9), 2) := by decide +kernel
theorem dX5_goVoyages_136 : decode cX5_goVoyages 136 = .ok (.if_icmp .ne 8, 3) := by decide +kernel
theorem dX5_goVoyages_139 : decode cX5_goVoyages 139 = .ok (.iload 4, 2) := by decide +kernel
theorem dX5_goVoyages_141 : decode cX5_goVoyages 141 = .ok (.goto 7, 3) := by decide +kernel
theorem dX5_goVoyages_144 : decode cX5_goVoyages 144 = .ok (.aload_n 0, 1) := by decide +kernel
theorem dX5_goVoyages_145 : decode cX5_goVoyages 145 = .ok (.getfield 153, 3) := by decide +kernel
theorem dX5_goVoyages_148 : decode cX5_goVoyages 148 = .ok (.putfield 153, 3) := by decide +kernel
theorem dX5_goVoyages_151 : decode cX5_goVoyages 151 = .ok (.aload_n 0, 1) := by decide +kernel
theorem dX5_goVoyages_152 : decode cX5_goVoyages 152 = .ok (.dup, 1) := by decide +kernel
theorem dX5_goVoyages_153 : decode cX5_goVoyages 153 = .ok (.getfield 156, 3) := by decide +kernel
theorem dX5_goVoyages_156 : decode cX5_goVoyages 156 = .ok (.aload_n 0, 1) := by decide +kernel
theorem dX5_goVoyages_157 : decode cX5_goVoyages 157 = .ok (.iload 5, 2) := by decide +kernel
theorem dX5_goVoyages_159 : decode cX5_goVoyages 159 = .ok (.iload 5, 2) := by decide +kernel
theorem dX5_goVoyages_161 : decode cX5_goVoyages 161 = .ok (.iload 6, 2) := by decide +kernel
theorem dX5_goVoyages_163 : decode cX5_goVoyages 163 = .ok (.invokevirtual 123, 3) := by decide +kernel
theorem dX5_goVoyages_166 : decode cX5_goVoyages 166 = .ok (.ifCond .eq 7, 3) := by decide +kernel
theorem dX5_goVoyages_169 : decode cX5_goVoyages 169 = .ok (.iconst 1, 1) := by decide +kernel
theorem dX5_goVoyages_170 : decode cX5_goVoyages 170 = .ok (.goto 4, 3) := by decide +kernel
theorem dX5_goVoyages_173 : decode cX5_goVoyages 173 = .ok (.iconst 0, 1) := by decide +kernel
theorem dX5_goVoyages_174 : decode cX5_goVoyages 174 = .ok (.iadd, 1) := by decide +kernel
theorem dX5_goVoyages_175 : decode cX5_goVoyages 175 = .ok (.putfield 156, 3) := by decide +kernel
theorem dX5_goVoyages_178 : decode cX5_goVoyages 178 = .ok (.aload_n 0, 1) := by decide +kernel
theorem dX5_goVoyages_179 : decode cX5_goVoyages 179 = .ok (.getfield 31, 3) := by decide +kernel
theorem dX5_goVoyages_182 : decode cX5_goVoyages 182 = .ok (.iload 5, 2) := by decide +kernel
theorem dX5_goVoyages_184 : decode cX5_goVoyages 184 = .ok (.dup2, 1) := by decide +kernel
theorem dX5_goVoyages_185 : decode cX5_goVoyages 185 = .ok (.iaload, 1) := by decide +kernel
theorem dX5_goVoyages_186 : decode cX5_goVoyages 186 = .ok (.iconst 1, 1) := by decide +kernel
theorem dX5_goVoyages_187 : decode cX5_goVoyages 187 = .ok (.iadd, 1) := by decide +kernel
theorem dX5_goVoyages_188 : decode cX5_goVoyages 188 = .ok (.iastore, 1) := by decide +kernel
theorem dX5_goVoyages_189 : decode cX5_goVoyages 189 = .ok (.iinc 4 1, 3) := by decide +kernel
theorem dX5_goVoyages_192 : decode cX5_goVoyages 192 = .ok (.goto (-149), 3) := by decide +kernel
theorem dX5_goVoyages_195 : decode cX5_goVoyages 195 = .ok (.bipush (-9), 2) := by decide +kernel
theorem dX5_goVoyages_197 : decode cX5_goVoyages 197 = .ok (.ireturn, 1) := by decide +kernel
set_option maxRecDepth 20000 in
theorem ggX5_tellVoyages_X5_isPass : GoodIn wsX5_tellVoyages wsX5_isPass := goodIn_r _ [9, 10, 11, 12, 13, 14, 15, 16, 17, 18, 19, 20, 21, 22, 23, 24, 25, 26, 27, 28, 29, 30, 31, 32, 33] (by decide +kernel) (by decide +kernel)
set_option maxRecDepth 20000 in
theorem gX5_tellVoyages_X5_isPass : GoodIn wsX5_tellVoyages (wsV RX5 103 RX5 yX5_isPass wsX5_isPass) := goodIn_app (goodIn_of _ (by decide +kernel)) ggX5_tellVoyages_X5_isPass
theorem dX5_tellVoyages_0 : decode cX5_tellVoyages 0 = .ok (.iload_n 1, 1) := by decide +kernel
theorem dX5_tellVoyages_1 : decode cX5_tellVoyages 1 = .ok (.bipush 10, 2) := by decide +kernel
theorem dX5_tellVoyages_3 : decode cX5_tellVoyages 3 = .ok (.if_icmp .lt 29, 3) := by decide +kernel
theorem dX5_tellVoyages_6 : decode cX5_tellVoyages 6 = .ok (.aload_n 0, 1) := by decide +kernel
theorem dX5_tellVoyages_7 : decode cX5_tellVoyages 7 = .ok (.iload_n 1, 1) := by decide +kernel
theorem dX5_tellVoyages_8 : decode cX5_tellVoyages 8 = .ok (.bipush 10, 2) := by decide +kernel
theorem dX5_tellVoyages_10 : decode cX5_tellVoyages 10 = .ok (.isub, 1) := by decide +kernel
theorem dX5_tellVoyages_11 : decode cX5_tellVoyages 11 = .ok (.invokevirtual 103, 3) := by decide +kernel
theorem dX5_tellVoyages_14 : decode cX5_tellVoyages 14 = .ok (.ifCond .eq 15, 3) := by decide +kernel
theorem dX5_tellVoyages_17 : decode cX5_tellVoyages 17 = .ok (.aload_n 0, 1) := by decide +kernel
theorem dX5_tellVoyages_18 : decode cX5_tellVoyages 18 = .ok (.getfield 31, 3) := by decide +kernel
theorem dX5_tellVoyages_21 : decode cX5_tellVoyages 21 = .ok (.iload_n 1, 1) := by decide +kernel
theorem dX5_tellVoyages_22 : decode cX5_tellVoyages 22 = .ok (.bipush 10, 2) := by decide +kernel
theorem dX5_tellVoyages_24 : decode cX5_tellVoyages 24 = .ok (.isub, 1) := by decide +kernel
theorem dX5_tellVoyages_25 : decode cX5_tellVoyages 25 = .ok (.iaload, 1) := by decide +kernel
theorem dX5_tellVoyages_26 : decode cX5_tellVoyages 26 = .ok (.goto 5, 3) := by decide +kernel
theorem dX5_tellVoyages_29 : decode cX5_tellVoyages 29 = .ok (.bipush (-9), 2) := by decide +kernel
theorem dX5_tellVoyages_31 : decode cX5_tellVoyages 31 = .ok (.ireturn, 1) := by decide +kernel
theorem dX5_tellVoyages_32 : decode cX5_tellVoyages 32 = .ok (.iload_n 1, 1) := by decide +kernel
theorem dX5_tellVoyages_33 : decode cX5_tellVoyages 33 = .ok (.ifCond .ne 10, 3) := by decide +kernel
theorem dX5_tellVoyages_36 : decode cX5_tellVoyages 36 = .ok (.aload_n 0, 1) := by decide +kernel
theorem dX5_tellVoyages_37 : decode cX5_tellVoyages 37 = .ok (.getfield 150, 3) := by decide +kernel
theorem dX5_tellVoyages_40 : decode cX5_tellVoyages 40 = .ok (.goto 19, 3) := by decide +kernel
theorem dX5_tellVoyages_43 : decode cX5_tellVoyages 43 = .ok (.iload_n 1, 1) := by decide +kernel
theorem dX5_tellVoyages_44 : decode cX5_tellVoyages 44 = .ok (.iconst 2, 1) := by decide +kernel
theorem dX5_tellVoyages_45 : decode cX5_tellVoyages 45 = .ok (.if_icmp .ne 10, 3) := by decide +kernel
theorem dX5_tellVoyages_48 : decode cX5_tellVoyages 48 = .ok (.aload_n 0, 1) := by decide +kernel
theorem dX5_tellVoyages_49 : decode cX5_tellVoyages 49 = .ok (.getfield 153, 3) := by decide +kernel
theorem dX5_tellVoyages_52 : decode cX5_tellVoyages 52 = .ok (.goto 7, 3) := by decide +kernel
theorem dX5_tellVoyages_55 : decode cX5_tellVoyages 55 = .ok (.aload_n 0, 1) := by decide +kernel
theorem dX5_tellVoyages_56 : decode cX5_tellVoyages 56 = .ok (.getfield 156, 3) := by decide +kernel
theorem dX5_tellVoyages_59 : decode cX5_tellVoyages 59 = .ok (.ireturn, 1) := by decide +kernel
set_option maxRecDepth 20000 in
theorem ggX5_reading_X5_isPass : GoodIn wsX5_reading wsX5_isPass := goodIn_r _ [10, 11, 18, 19, 20, 21, 22, 23, 24, 25, 26, 27, 28, 29, 30, 31, 32, 33, 34, 35, 36, 37, 38, 39, 40] (by decide +kernel) (by decide +kernel)
set_option maxRecDepth 20000 in
theorem gX5_reading_X5_isPass : GoodIn wsX5_reading (wsV RX5 103 RX5 yX5_isPass wsX5_isPass) := goodIn_app (goodIn_of _ (by decide +kernel)) ggX5_reading_X5_isPass
set_option maxRecDepth 20000 in
theorem ggX5_reading_X5_isDigit : GoodIn wsX5_reading wsX5_isDigit := goodIn_r _ [14, 15, 16, 9, 17] (by decide +kernel) (by decide +kernel)
set_option maxRecDepth 20000 in
theorem gX5_reading_X5_isDigit : GoodIn wsX5_reading (va_wsS RX5 109 yX5_isDigit wsX5_isDigit) := goodIn_app (goodIn_of _ (by decide +kernel)) ggX5_reading_X5_isDigit
theorem dX5_reading_0 : decode cX5_reading 0 = .ok (.aload_n 0, 1) := by decide +kernel
theorem dX5_reading_1 : decode cX5_reading 1 = .ok (.iload_n 1, 1) := by decide +kernel
theorem dX5_reading_2 : decode cX5_reading 2 = .ok (.invokevirtual 103, 3) := by decide +kernel
theorem dX5_reading_5 : decode cX5_reading 5 = .ok (.ifCond .eq 11, 3) := by decide +kernel
theorem dX5_reading_8 : decode cX5_reading 8 = .ok (.aload_n 0, 1) := by decide +kernel
theorem dX5_reading_9 : decode cX5_reading 9 = .ok (.iload_n 2, 1) := by decide +kernel
theorem dX5_reading_10 : decode cX5_reading 10 = .ok (.invokevirtual 103, 3) := by decide +kernel
theorem dX5_reading_13 : decode cX5_reading 13 = .ok (.ifCond .ne 5, 3) := by decide +kernel
theorem dX5_reading_16 : decode cX5_reading 16 = .ok (.iconst (-1), 1) := by decide +kernel
theorem dX5_reading_17 : decode cX5_reading 17 = .ok (.ireturn, 1) := by decide +kernel
theorem dX5_reading_18 : decode cX5_reading 18 = .ok (.iload_n 3, 1) := by decide +kernel
theorem dX5_reading_19 : decode cX5_reading 19 = .ok (.invokestatic 109, 3) := by decide +kernel
theorem dX5_reading_22 : decode cX5_reading 22 = .ok (.ifCond .ne 6, 3) := by decide +kernel
theorem dX5_reading_25 : decode cX5_reading 25 = .ok (.bipush (-2), 2) := by decide +kernel
theorem dX5_reading_27 : decode cX5_reading 27 = .ok (.ireturn, 1) := by decide +kernel
theorem dX5_reading_28 : decode cX5_reading 28 = .ok (.aload_n 0, 1) := by decide +kernel
theorem dX5_reading_29 : decode cX5_reading 29 = .ok (.getfield 90, 3) := by decide +kernel
theorem dX5_reading_32 : decode cX5_reading 32 = .ok (.bipush 8, 2) := by decide +kernel
theorem dX5_reading_34 : decode cX5_reading 34 = .ok (.if_icmp .ne 6, 3) := by decide +kernel
theorem dX5_reading_37 : decode cX5_reading 37 = .ok (.bipush (-4), 2) := by decide +kernel
theorem dX5_reading_39 : decode cX5_reading 39 = .ok (.ireturn, 1) := by decide +kernel
theorem dX5_reading_40 : decode cX5_reading 40 = .ok (.aload_n 0, 1) := by decide +kernel
theorem dX5_reading_41 : decode cX5_reading 41 = .ok (.getfield 34, 3) := by decide +kernel
theorem dX5_reading_44 : decode cX5_reading 44 = .ok (.aload_n 0, 1) := by decide +kernel
theorem dX5_reading_45 : decode cX5_reading 45 = .ok (.getfield 90, 3) := by decide +kernel
theorem dX5_reading_48 : decode cX5_reading 48 = .ok (.iload_n 1, 1) := by decide +kernel
theorem dX5_reading_49 : decode cX5_reading 49 = .ok (.iastore, 1) := by decide +kernel
theorem dX5_reading_50 : decode cX5_reading 50 = .ok (.aload_n 0, 1) := by decide +kernel
theorem dX5_reading_51 : decode cX5_reading 51 = .ok (.getfield 37, 3) := by decide +kernel
theorem dX5_reading_54 : decode cX5_reading 54 = .ok (.aload_n 0, 1) := by decide +kernel
theorem dX5_reading_55 : decode cX5_reading 55 = .ok (.getfield 90, 3) := by decide +kernel
theorem dX5_reading_58 : decode cX5_reading 58 = .ok (.iload_n 2, 1) := by decide +kernel
theorem dX5_reading_59 : decode cX5_reading 59 = .ok (.iastore, 1) := by decide +kernel
theorem dX5_reading_60 : decode cX5_reading 60 = .ok (.aload_n 0, 1) := by decide +kernel
theorem dX5_reading_61 : decode cX5_reading 61 = .ok (.getfield 40, 3) := by decide +kernel
theorem dX5_reading_64 : decode cX5_reading 64 = .ok (.aload_n 0, 1) := by decide +kernel
theorem dX5_reading_65 : decode cX5_reading 65 = .ok (.getfield 90, 3) := by decide +kernel
theorem dX5_reading_68 : decode cX5_reading 68 = .ok (.iload_n 3, 1) := by decide +kernel
theorem dX5_reading_69 : decode cX5_reading 69 = .ok (.iastore, 1) := by decide +kernel
theorem dX5_reading_70 : decode cX5_reading 70 = .ok (.aload_n 0, 1) := by decide +kernel
theorem dX5_reading_71 : decode cX5_reading 71 = .ok (.getfield 43, 3) := by decide +kernel
theorem dX5_reading_74 : decode cX5_reading 74 = .ok (.aload_n 0, 1) := by decide +kernel
theorem dX5_reading_75 : decode cX5_reading 75 = .ok (.getfield 90, 3) := by decide +kernel
theorem dX5_reading_78 : decode cX5_reading 78 = .ok (.iload 4, 2) := by decide +kernel
theorem dX5_reading_80 : decode cX5_reading 80 = .ok (.bastore, 1) := by decide +kernel
theorem dX5_reading_81 : decode cX5_reading 81 = .ok (.aload_n 0, 1) := by decide +kernel
theorem dX5_reading_82 : decode cX5_reading 82 = .ok (.dup, 1) := by decide +kernel
theorem dX5_reading_83 : decode cX5_reading 83 = .ok (.getfield 90, 3) := by decide +kernel
theorem dX5_reading_86 : decode cX5_reading 86 = .ok (.iconst 1, 1) := by decide +kernel
theorem dX5_reading_87 : decode cX5_reading 87 = .ok (.iadd, 1) := by decide +kernel
theorem dX5_reading_88 : decode cX5_reading 88 = .ok (.putfield 90, 3) := by decide +kernel
theorem dX5_reading_91 : decode cX5_reading 91 = .ok (.aload_n 0, 1) := by decide +kernel
theorem dX5_reading_92 : decode cX5_reading 92 = .ok (.getfield 90, 3) := by decide +kernel
theorem dX5_reading_95 : decode cX5_reading 95 = .ok (.iconst 1, 1) := by decide +kernel
theorem dX5_reading_96 : decode cX5_reading 96 = .ok (.isub, 1) := by decide +kernel
theorem dX5_reading_97 : decode cX5_reading 97 = .ok (.ireturn, 1) := by decide +kernel
set_option maxRecDepth 20000 in
theorem ggX5_back_X5_within : GoodIn wsX5_back wsX5_within := goodIn_r _ [5] (by decide +kernel) (by decide +kernel)
set_option maxRecDepth 20000 in
theorem gX5_back_X5_within : GoodIn wsX5_back (va_wsS RX5 53 yX5_within wsX5_within) := goodIn_app (goodIn_of _ (by decide +kernel)) ggX5_back_X5_within
theorem dX5_back_0 : decode cX5_back 0 = .ok (.iload_n 1, 1) := by decide +kernel
theorem dX5_back_1 : decode cX5_back 1 = .ok (.iconst 0, 1) := by decide +kernel
theorem dX5_back_2 : decode cX5_back 2 = .ok (.aload_n 0, 1) := by decide +kernel
theorem dX5_back_3 : decode cX5_back 3 = .ok (.getfield 90, 3) := by decide +kernel
theorem dX5_back_6 : decode cX5_back 6 = .ok (.invokestatic 53, 3) := by decide +kernel
theorem dX5_back_9 : decode cX5_back 9 = .ok (.ifCond .ne 6, 3) := by decide +kernel
theorem dX5_back_12 : decode cX5_back 12 = .ok (.bipush (-2), 2) := by decide +kernel
theorem dX5_back_14 : decode cX5_back 14 = .ok (.ireturn, 1) := by decide +kernel
theorem dX5_back_15 : decode cX5_back 15 = .ok (.aload_n 0, 1) := by decide +kernel
theorem dX5_back_16 : decode cX5_back 16 = .ok (.dup, 1) := by decide +kernel
theorem dX5_back_17 : decode cX5_back 17 = .ok (.getfield 90, 3) := by decide +kernel
theorem dX5_back_20 : decode cX5_back 20 = .ok (.iload_n 1, 1) := by decide +kernel
theorem dX5_back_21 : decode cX5_back 21 = .ok (.isub, 1) := by decide +kernel
theorem dX5_back_22 : decode cX5_back 22 = .ok (.putfield 90, 3) := by decide +kernel
theorem dX5_back_25 : decode cX5_back 25 = .ok (.aload_n 0, 1) := by decide +kernel
theorem dX5_back_26 : decode cX5_back 26 = .ok (.getfield 90, 3) := by decide +kernel
theorem dX5_back_29 : decode cX5_back 29 = .ok (.ireturn, 1) := by decide +kernel
set_option maxRecDepth 20000 in
theorem ggX5_areSo_X5_isFit : GoodIn wsX5_areSo wsX5_isFit := goodIn_r _ [10, 11, 12, 13, 14, 9, 15, 16, 17, 18, 19, 20, 21, 22, 23, 24, 25, 26, 27, 28, 29, 30, 31, 32, 33, 34, 35, 36, 37, 38, 39, 40, 41, 42, 43, 44, 45, 46, 47] (by decide +kernel) (by decide +kernel)
set_option maxRecDepth 20000 in
theorem gX5_areSo_X5_isFit : GoodIn wsX5_areSo (wsV RX5 123 RX5 yX5_isFit wsX5_isFit) := goodIn_app (goodIn_of _ (by decide +kernel)) ggX5_areSo_X5_isFit
theorem dX5_areSo_0 : decode cX5_areSo 0 = .ok (.iconst 0, 1) := by decide +kernel
theorem dX5_areSo_1 : decode cX5_areSo 1 = .ok (.istore_n 1, 1) := by decide +kernel
theorem dX5_areSo_2 : decode cX5_areSo 2 = .ok (.iload_n 1, 1) := by decide +kernel
theorem dX5_areSo_3 : decode cX5_areSo 3 = .ok (.aload_n 0, 1) := by decide +kernel
theorem dX5_areSo_4 : decode cX5_areSo 4 = .ok (.getfield 90, 3) := by decide +kernel
theorem dX5_areSo_7 : decode cX5_areSo 7 = .ok (.if_icmp .ge 42, 3) := by decide +kernel
theorem dX5_areSo_10 : decode cX5_areSo 10 = .ok (.aload_n 0, 1) := by decide +kernel
theorem dX5_areSo_11 : decode cX5_areSo 11 = .ok (.aload_n 0, 1) := by decide +kernel
theorem dX5_areSo_12 : decode cX5_areSo 12 = .ok (.getfield 34, 3) := by decide +kernel
theorem dX5_areSo_15 : decode cX5_areSo 15 = .ok (.iload_n 1, 1) := by decide +kernel
theorem dX5_areSo_16 : decode cX5_areSo 16 = .ok (.iaload, 1) := by decide +kernel
theorem dX5_areSo_17 : decode cX5_areSo 17 = .ok (.aload_n 0, 1) := by decide +kernel
theorem dX5_areSo_18 : decode cX5_areSo 18 = .ok (.getfield 37, 3) := by decide +kernel
theorem dX5_areSo_21 : decode cX5_areSo 21 = .ok (.iload_n 1, 1) := by decide +kernel
theorem dX5_areSo_22 : decode cX5_areSo 22 = .ok (.iaload, 1) := by decide +kernel
theorem dX5_areSo_23 : decode cX5_areSo 23 = .ok (.aload_n 0, 1) := by decide +kernel
theorem dX5_areSo_24 : decode cX5_areSo 24 = .ok (.getfield 40, 3) := by decide +kernel
theorem dX5_areSo_27 : decode cX5_areSo 27 = .ok (.iload_n 1, 1) := by decide +kernel
theorem dX5_areSo_28 : decode cX5_areSo 28 = .ok (.iaload, 1) := by decide +kernel
theorem dX5_areSo_29 : decode cX5_areSo 29 = .ok (.invokevirtual 123, 3) := by decide +kernel
theorem dX5_areSo_32 : decode cX5_areSo 32 = .ok (.aload_n 0, 1) := by decide +kernel
theorem dX5_areSo_33 : decode cX5_areSo 33 = .ok (.getfield 43, 3) := by decide +kernel
theorem dX5_areSo_36 : decode cX5_areSo 36 = .ok (.iload_n 1, 1) := by decide +kernel
theorem dX5_areSo_37 : decode cX5_areSo 37 = .ok (.baload, 1) := by decide +kernel
theorem dX5_areSo_38 : decode cX5_areSo 38 = .ok (.if_icmp .eq 5, 3) := by decide +kernel
theorem dX5_areSo_41 : decode cX5_areSo 41 = .ok (.iconst 0, 1) := by decide +kernel
theorem dX5_areSo_42 : decode cX5_areSo 42 = .ok (.ireturn, 1) := by decide +kernel
theorem dX5_areSo_43 : decode cX5_areSo 43 = .ok (.iinc 1 1, 3) := by decide +kernel
theorem dX5_areSo_46 : decode cX5_areSo 46 = .ok (.goto (-44), 3) := by decide +kernel
theorem dX5_areSo_49 : decode cX5_areSo 49 = .ok (.iconst 1, 1) := by decide +kernel
theorem dX5_areSo_50 : decode cX5_areSo 50 = .ok (.ireturn, 1) := by decide +kernel
set_option maxRecDepth 20000 in
theorem ggX5_edges_X5_isPass : GoodIn wsX5_edges wsX5_isPass := goodIn_r _ [6, 7, 40, 41, 42, 43, 44, 45, 46, 47, 48, 49, 50, 51, 52, 53, 54, 55, 56, 57, 58, 59, 60, 61, 62] (by decide +kernel) (by decide +kernel)
set_option maxRecDepth 20000 in
theorem gX5_edges_X5_isPass : GoodIn wsX5_edges (wsV RX5 103 RX5 yX5_isPass wsX5_isPass) := goodIn_app (goodIn_of _ (by decide +kernel)) ggX5_edges_X5_isPass
set_option maxRecDepth 20000 in
theorem ggX5_edges_X5_isPlace : GoodIn wsX5_edges wsX5_isPlace := goodIn_r _ [10, 11, 12, 5, 13] (by decide +kernel) (by decide +kernel)
set_option maxRecDepth 20000 in
theorem gX5_edges_X5_isPlace : GoodIn wsX5_edges (va_wsS RX5 106 yX5_isPlace wsX5_isPlace) := goodIn_app (goodIn_of _ (by decide +kernel)) ggX5_edges_X5_isPlace
set_option maxRecDepth 20000 in
theorem ggX5_edges_X5_areSo : GoodIn wsX5_edges wsX5_areSo := goodIn_r _ [17, 18, 19, 20, 21, 22, 23, 24, 25, 5, 26, 27, 28, 29, 30, 31, 1, 32, 33, 34, 35, 36, 37, 38, 39, 40, 41, 42, 43, 44, 45, 46, 47, 48, 49, 50, 51, 52, 53, 54, 55, 56, 57, 58, 59, 60, 61, 62] (by decide +kernel) (by decide +kernel)
set_option maxRecDepth 20000 in
theorem gX5_edges_X5_areSo : GoodIn wsX5_edges (wsV RX5 159 RX5 yX5_areSo wsX5_areSo) := goodIn_app (goodIn_of _ (by decide +kernel)) ggX5_edges_X5_areSo
theorem dX5_edges_0 : decode cX5_edges 0 = .ok (.aload_n 0, 1) := by decide +kernel
theorem dX5_edges_1 : decode cX5_edges 1 = .ok (.iload_n 1, 1) := by decide +kernel
theorem dX5_edges_2 : decode cX5_edges 2 = .ok (.invokevirtual 103, 3) := by decide +kernel
theorem dX5_edges_5 : decode cX5_edges 5 = .ok (.ifCond .ne 5, 3) := by decide +kernel
theorem dX5_edges_8 : decode cX5_edges 8 = .ok (.iconst (-1), 1) := by decide +kernel
theorem dX5_edges_9 : decode cX5_edges 9 = .ok (.ireturn, 1) := by decide +kernel
theorem dX5_edges_10 : decode cX5_edges 10 = .ok (.iload_n 2, 1) := by decide +kernel
theorem dX5_edges_11 : decode cX5_edges 11 = .ok (.invokestatic 106, 3) := by decide +kernel
theorem dX5_edges_14 : decode cX5_edges 14 = .ok (.ifCond .ne 6, 3) := by decide +kernel
theorem dX5_edges_17 : decode cX5_edges 17 = .ok (.bipush (-2), 2) := by decide +kernel
theorem dX5_edges_19 : decode cX5_edges 19 = .ok (.ireturn, 1) := by decide +kernel
theorem dX5_edges_20 : decode cX5_edges 20 = .ok (.iconst 3, 1) := by decide +kernel
theorem dX5_edges_21 : decode cX5_edges 21 = .ok (.iload_n 1, 1) := by decide +kernel
theorem dX5_edges_22 : decode cX5_edges 22 = .ok (.imul, 1) := by decide +kernel
theorem dX5_edges_23 : decode cX5_edges 23 = .ok (.iload_n 2, 1) := by decide +kernel
theorem dX5_edges_24 : decode cX5_edges 24 = .ok (.iadd, 1) := by decide +kernel
theorem dX5_edges_25 : decode cX5_edges 25 = .ok (.istore_n 3, 1) := by decide +kernel
theorem dX5_edges_26 : decode cX5_edges 26 = .ok (.aload_n 0, 1) := by decide +kernel
theorem dX5_edges_27 : decode cX5_edges 27 = .ok (.getfield 22, 3) := by decide +kernel
theorem dX5_edges_30 : decode cX5_edges 30 = .ok (.iload_n 3, 1) := by decide +kernel
theorem dX5_edges_31 : decode cX5_edges 31 = .ok (.iaload, 1) := by decide +kernel
theorem dX5_edges_32 : decode cX5_edges 32 = .ok (.istore 4, 2) := by decide +kernel
theorem dX5_edges_34 : decode cX5_edges 34 = .ok (.iconst 0, 1) := by decide +kernel
theorem dX5_edges_35 : decode cX5_edges 35 = .ok (.istore 5, 2) := by decide +kernel
theorem dX5_edges_37 : decode cX5_edges 37 = .ok (.iconst 0, 1) := by decide +kernel
theorem dX5_edges_38 : decode cX5_edges 38 = .ok (.istore 6, 2) := by decide +kernel
theorem dX5_edges_40 : decode cX5_edges 40 = .ok (.iload 6, 2) := by decide +kernel
theorem dX5_edges_42 : decode cX5_edges 42 = .ok (.bipush 9, 2) := by decide +kernel
theorem dX5_edges_44 : decode cX5_edges 44 = .ok (.if_icmp .gt 37, 3) := by decide +kernel
theorem dX5_edges_47 : decode cX5_edges 47 = .ok (.aload_n 0, 1) := by decide +kernel
theorem dX5_edges_48 : decode cX5_edges 48 = .ok (.getfield 22, 3) := by decide +kernel
theorem dX5_edges_51 : decode cX5_edges 51 = .ok (.iload_n 3, 1) := by decide +kernel
theorem dX5_edges_52 : decode cX5_edges 52 = .ok (.iload 6, 2) := by decide +kernel
