theorem dX5_edges_54 : decode cX5_edges 54 = .ok (.iastore, 1) := by decide +kernel
theorem dX5_edges_55 : decode cX5_edges 55 = .ok (.iload 5, 2) := by decide +kernel
theorem dX5_edges_57 : decode cX5_edges 57 = .ok (.aload_n 0, 1) := by decide +kernel
theorem dX5_edges_58 : decode cX5_edges 58 = .ok (.invokevirtual 159, 3) := by decide +kernel
theorem dX5_edges_61 : decode cX5_edges 61 = .ok (.ifCond .eq 10, 3) := by decide +kernel
theorem dX5_edges_64 : decode cX5_edges 64 = .ok (.iconst 1, 1) := by decide +kernel
theorem dX5_edges_65 : decode cX5_edges 65 = .ok (.iload 6, 2) := by decide +kernel
theorem dX5_edges_67 : decode cX5_edges 67 = .ok (.ishl, 1) := by decide +kernel
theorem dX5_edges_68 : decode cX5_edges 68 = .ok (.goto 4, 3) := by decide +kernel
theorem dX5_edges_71 : decode cX5_edges 71 = .ok (.iconst 0, 1) := by decide +kernel
theorem dX5_edges_72 : decode cX5_edges 72 = .ok (.ior, 1) := by decide +kernel
theorem dX5_edges_73 : decode cX5_edges 73 = .ok (.istore 5, 2) := by decide +kernel
theorem dX5_edges_75 : decode cX5_edges 75 = .ok (.iinc 6 1, 3) := by decide +kernel
theorem dX5_edges_78 : decode cX5_edges 78 = .ok (.goto (-38), 3) := by decide +kernel
theorem dX5_edges_81 : decode cX5_edges 81 = .ok (.aload_n 0, 1) := by decide +kernel
theorem dX5_edges_82 : decode cX5_edges 82 = .ok (.getfield 22, 3) := by decide +kernel
theorem dX5_edges_85 : decode cX5_edges 85 = .ok (.iload_n 3, 1) := by decide +kernel
theorem dX5_edges_86 : decode cX5_edges 86 = .ok (.iload 4, 2) := by decide +kernel
theorem dX5_edges_88 : decode cX5_edges 88 = .ok (.iastore, 1) := by decide +kernel
theorem dX5_edges_89 : decode cX5_edges 89 = .ok (.iload 5, 2) := by decide +kernel
theorem dX5_edges_91 : decode cX5_edges 91 = .ok (.ireturn, 1) := by decide +kernel
set_option maxRecDepth 20000 in
theorem ggX5_kinds_X5_isPass : GoodIn wsX5_kinds wsX5_isPass := goodIn_r _ [6, 7, 34, 35, 36, 37, 38, 39, 40, 41, 42, 43, 44, 45, 46, 47, 48, 49, 50, 51, 52, 53, 54, 55, 56] (by decide +kernel) (by decide +kernel)
set_option maxRecDepth 20000 in
theorem gX5_kinds_X5_isPass : GoodIn wsX5_kinds (wsV RX5 103 RX5 yX5_isPass wsX5_isPass) := goodIn_app (goodIn_of _ (by decide +kernel)) ggX5_kinds_X5_isPass
set_option maxRecDepth 20000 in
theorem ggX5_kinds_X5_areSo : GoodIn wsX5_kinds wsX5_areSo := goodIn_r _ [11, 12, 13, 14, 15, 16, 17, 18, 19, 5, 20, 21, 22, 23, 24, 25, 26, 27, 28, 29, 30, 1, 31, 32, 33, 34, 35, 36, 37, 38, 39, 40, 41, 42, 43, 44, 45, 46, 47, 48, 49, 50, 51, 52, 53, 54, 55, 56] (by decide +kernel) (by decide +kernel)
set_option maxRecDepth 20000 in
theorem gX5_kinds_X5_areSo : GoodIn wsX5_kinds (wsV RX5 159 RX5 yX5_areSo wsX5_areSo) := goodIn_app (goodIn_of _ (by decide +kernel)) ggX5_kinds_X5_areSo
theorem dX5_kinds_0 : decode cX5_kinds 0 = .ok (.aload_n 0, 1) := by decide +kernel
theorem dX5_kinds_1 : decode cX5_kinds 1 = .ok (.iload_n 1, 1) := by decide +kernel
theorem dX5_kinds_2 : decode cX5_kinds 2 = .ok (.invokevirtual 103, 3) := by decide +kernel
theorem dX5_kinds_5 : decode cX5_kinds 5 = .ok (.ifCond .ne 5, 3) := by decide +kernel
theorem dX5_kinds_8 : decode cX5_kinds 8 = .ok (.iconst (-1), 1) := by decide +kernel
theorem dX5_kinds_9 : decode cX5_kinds 9 = .ok (.ireturn, 1) := by decide +kernel
theorem dX5_kinds_10 : decode cX5_kinds 10 = .ok (.aload_n 0, 1) := by decide +kernel
theorem dX5_kinds_11 : decode cX5_kinds 11 = .ok (.getfield 19, 3) := by decide +kernel
theorem dX5_kinds_14 : decode cX5_kinds 14 = .ok (.iload_n 1, 1) := by decide +kernel
theorem dX5_kinds_15 : decode cX5_kinds 15 = .ok (.iaload, 1) := by decide +kernel
theorem dX5_kinds_16 : decode cX5_kinds 16 = .ok (.istore_n 2, 1) := by decide +kernel
theorem dX5_kinds_17 : decode cX5_kinds 17 = .ok (.iconst 0, 1) := by decide +kernel
theorem dX5_kinds_18 : decode cX5_kinds 18 = .ok (.istore_n 3, 1) := by decide +kernel
theorem dX5_kinds_19 : decode cX5_kinds 19 = .ok (.iconst 0, 1) := by decide +kernel
theorem dX5_kinds_20 : decode cX5_kinds 20 = .ok (.istore 4, 2) := by decide +kernel
theorem dX5_kinds_22 : decode cX5_kinds 22 = .ok (.iload 4, 2) := by decide +kernel
theorem dX5_kinds_24 : decode cX5_kinds 24 = .ok (.iconst 3, 1) := by decide +kernel
theorem dX5_kinds_25 : decode cX5_kinds 25 = .ok (.if_icmp .ge 35, 3) := by decide +kernel
theorem dX5_kinds_28 : decode cX5_kinds 28 = .ok (.aload_n 0, 1) := by decide +kernel
theorem dX5_kinds_29 : decode cX5_kinds 29 = .ok (.getfield 19, 3) := by decide +kernel
theorem dX5_kinds_32 : decode cX5_kinds 32 = .ok (.iload_n 1, 1) := by decide +kernel
theorem dX5_kinds_33 : decode cX5_kinds 33 = .ok (.iload 4, 2) := by decide +kernel
theorem dX5_kinds_35 : decode cX5_kinds 35 = .ok (.iastore, 1) := by decide +kernel
theorem dX5_kinds_36 : decode cX5_kinds 36 = .ok (.iload_n 3, 1) := by decide +kernel
theorem dX5_kinds_37 : decode cX5_kinds 37 = .ok (.aload_n 0, 1) := by decide +kernel
theorem dX5_kinds_38 : decode cX5_kinds 38 = .ok (.invokevirtual 159, 3) := by decide +kernel
theorem dX5_kinds_41 : decode cX5_kinds 41 = .ok (.ifCond .eq 10, 3) := by decide +kernel
theorem dX5_kinds_44 : decode cX5_kinds 44 = .ok (.iconst 1, 1) := by decide +kernel
theorem dX5_kinds_45 : decode cX5_kinds 45 = .ok (.iload 4, 2) := by decide +kernel
theorem dX5_kinds_47 : decode cX5_kinds 47 = .ok (.ishl, 1) := by decide +kernel
theorem dX5_kinds_48 : decode cX5_kinds 48 = .ok (.goto 4, 3) := by decide +kernel
theorem dX5_kinds_51 : decode cX5_kinds 51 = .ok (.iconst 0, 1) := by decide +kernel
theorem dX5_kinds_52 : decode cX5_kinds 52 = .ok (.ior, 1) := by decide +kernel
theorem dX5_kinds_53 : decode cX5_kinds 53 = .ok (.istore_n 3, 1) := by decide +kernel
theorem dX5_kinds_54 : decode cX5_kinds 54 = .ok (.iinc 4 1, 3) := by decide +kernel
theorem dX5_kinds_57 : decode cX5_kinds 57 = .ok (.goto (-35), 3) := by decide +kernel
theorem dX5_kinds_60 : decode cX5_kinds 60 = .ok (.aload_n 0, 1) := by decide +kernel
theorem dX5_kinds_61 : decode cX5_kinds 61 = .ok (.getfield 19, 3) := by decide +kernel
theorem dX5_kinds_64 : decode cX5_kinds 64 = .ok (.iload_n 1, 1) := by decide +kernel
theorem dX5_kinds_65 : decode cX5_kinds 65 = .ok (.iload_n 2, 1) := by decide +kernel
theorem dX5_kinds_66 : decode cX5_kinds 66 = .ok (.iastore, 1) := by decide +kernel
theorem dX5_kinds_67 : decode cX5_kinds 67 = .ok (.iload_n 3, 1) := by decide +kernel
theorem dX5_kinds_68 : decode cX5_kinds 68 = .ok (.ireturn, 1) := by decide +kernel
set_option maxRecDepth 20000 in
theorem ggX5_slacks_X5_areSo : GoodIn wsX5_slacks wsX5_areSo := goodIn_r _ [7, 8, 9, 10, 11, 12, 13, 14, 15, 6, 16, 2, 17, 18, 19, 20, 21, 22, 23, 24, 25, 26, 27, 28, 29, 30, 31, 32, 33, 34, 35, 36, 37, 38, 39, 40, 41, 42, 43, 44, 45, 46, 47, 48, 49, 50, 51, 52] (by decide +kernel) (by decide +kernel)
set_option maxRecDepth 20000 in
theorem gX5_slacks_X5_areSo : GoodIn wsX5_slacks (wsV RX5 159 RX5 yX5_areSo wsX5_areSo) := goodIn_app (goodIn_of _ (by decide +kernel)) ggX5_slacks_X5_areSo
theorem dX5_slacks_0 : decode cX5_slacks 0 = .ok (.aload_n 0, 1) := by decide +kernel
theorem dX5_slacks_1 : decode cX5_slacks 1 = .ok (.getfield 57, 3) := by decide +kernel
theorem dX5_slacks_4 : decode cX5_slacks 4 = .ok (.ifCond .ne 6, 3) := by decide +kernel
theorem dX5_slacks_7 : decode cX5_slacks 7 = .ok (.bipush (-3), 2) := by decide +kernel
theorem dX5_slacks_9 : decode cX5_slacks 9 = .ok (.ireturn, 1) := by decide +kernel
theorem dX5_slacks_10 : decode cX5_slacks 10 = .ok (.aload_n 0, 1) := by decide +kernel
theorem dX5_slacks_11 : decode cX5_slacks 11 = .ok (.getfield 84, 3) := by decide +kernel
theorem dX5_slacks_14 : decode cX5_slacks 14 = .ok (.istore_n 1, 1) := by decide +kernel
theorem dX5_slacks_15 : decode cX5_slacks 15 = .ok (.iconst 0, 1) := by decide +kernel
theorem dX5_slacks_16 : decode cX5_slacks 16 = .ok (.istore_n 2, 1) := by decide +kernel
theorem dX5_slacks_17 : decode cX5_slacks 17 = .ok (.iconst 0, 1) := by decide +kernel
theorem dX5_slacks_18 : decode cX5_slacks 18 = .ok (.istore_n 3, 1) := by decide +kernel
theorem dX5_slacks_19 : decode cX5_slacks 19 = .ok (.iload_n 3, 1) := by decide +kernel
theorem dX5_slacks_20 : decode cX5_slacks 20 = .ok (.bipush 9, 2) := by decide +kernel
theorem dX5_slacks_22 : decode cX5_slacks 22 = .ok (.if_icmp .gt 31, 3) := by decide +kernel
theorem dX5_slacks_25 : decode cX5_slacks 25 = .ok (.aload_n 0, 1) := by decide +kernel
theorem dX5_slacks_26 : decode cX5_slacks 26 = .ok (.iload_n 3, 1) := by decide +kernel
theorem dX5_slacks_27 : decode cX5_slacks 27 = .ok (.putfield 84, 3) := by decide +kernel
theorem dX5_slacks_30 : decode cX5_slacks 30 = .ok (.iload_n 2, 1) := by decide +kernel
theorem dX5_slacks_31 : decode cX5_slacks 31 = .ok (.aload_n 0, 1) := by decide +kernel
theorem dX5_slacks_32 : decode cX5_slacks 32 = .ok (.invokevirtual 159, 3) := by decide +kernel
theorem dX5_slacks_35 : decode cX5_slacks 35 = .ok (.ifCond .eq 9, 3) := by decide +kernel
theorem dX5_slacks_38 : decode cX5_slacks 38 = .ok (.iconst 1, 1) := by decide +kernel
theorem dX5_slacks_39 : decode cX5_slacks 39 = .ok (.iload_n 3, 1) := by decide +kernel
theorem dX5_slacks_40 : decode cX5_slacks 40 = .ok (.ishl, 1) := by decide +kernel
theorem dX5_slacks_41 : decode cX5_slacks 41 = .ok (.goto 4, 3) := by decide +kernel
theorem dX5_slacks_44 : decode cX5_slacks 44 = .ok (.iconst 0, 1) := by decide +kernel
theorem dX5_slacks_45 : decode cX5_slacks 45 = .ok (.ior, 1) := by decide +kernel
theorem dX5_slacks_46 : decode cX5_slacks 46 = .ok (.istore_n 2, 1) := by decide +kernel
theorem dX5_slacks_47 : decode cX5_slacks 47 = .ok (.iinc 3 1, 3) := by decide +kernel
theorem dX5_slacks_50 : decode cX5_slacks 50 = .ok (.goto (-31), 3) := by decide +kernel
theorem dX5_slacks_53 : decode cX5_slacks 53 = .ok (.aload_n 0, 1) := by decide +kernel
theorem dX5_slacks_54 : decode cX5_slacks 54 = .ok (.iload_n 1, 1) := by decide +kernel
theorem dX5_slacks_55 : decode cX5_slacks 55 = .ok (.putfield 84, 3) := by decide +kernel
theorem dX5_slacks_58 : decode cX5_slacks 58 = .ok (.iload_n 2, 1) := by decide +kernel
theorem dX5_slacks_59 : decode cX5_slacks 59 = .ok (.ireturn, 1) := by decide +kernel
theorem dX5_inLeastTerms_0 : decode cX5_inLeastTerms 0 = .ok (.lload_n 0, 1) := by decide +kernel
theorem dX5_inLeastTerms_1 : decode cX5_inLeastTerms 1 = .ok (.lstore 5, 2) := by decide +kernel
theorem dX5_inLeastTerms_3 : decode cX5_inLeastTerms 3 = .ok (.lload_n 2, 1) := by decide +kernel
theorem dX5_inLeastTerms_4 : decode cX5_inLeastTerms 4 = .ok (.lstore 7, 2) := by decide +kernel
theorem dX5_inLeastTerms_6 : decode cX5_inLeastTerms 6 = .ok (.lload 7, 2) := by decide +kernel
theorem dX5_inLeastTerms_8 : decode cX5_inLeastTerms 8 = .ok (.lconst 0, 1) := by decide +kernel
theorem dX5_inLeastTerms_9 : decode cX5_inLeastTerms 9 = .ok (.lcmp, 1) := by decide +kernel
theorem dX5_inLeastTerms_10 : decode cX5_inLeastTerms 10 = .ok (.ifCond .eq 21, 3) := by decide +kernel
theorem dX5_inLeastTerms_13 : decode cX5_inLeastTerms 13 = .ok (.lload 5, 2) := by decide +kernel
theorem dX5_inLeastTerms_15 : decode cX5_inLeastTerms 15 = .ok (.lload 7, 2) := by decide +kernel
theorem dX5_inLeastTerms_17 : decode cX5_inLeastTerms 17 = .ok (.lrem, 1) := by decide +kernel
theorem dX5_inLeastTerms_18 : decode cX5_inLeastTerms 18 = .ok (.lstore 9, 2) := by decide +kernel
theorem dX5_inLeastTerms_20 : decode cX5_inLeastTerms 20 = .ok (.lload 7, 2) := by decide +kernel
theorem dX5_inLeastTerms_22 : decode cX5_inLeastTerms 22 = .ok (.lstore 5, 2) := by decide +kernel
theorem dX5_inLeastTerms_24 : decode cX5_inLeastTerms 24 = .ok (.lload 9, 2) := by decide +kernel
theorem dX5_inLeastTerms_26 : decode cX5_inLeastTerms 26 = .ok (.lstore 7, 2) := by decide +kernel
theorem dX5_inLeastTerms_28 : decode cX5_inLeastTerms 28 = .ok (.goto (-22), 3) := by decide +kernel
theorem dX5_inLeastTerms_31 : decode cX5_inLeastTerms 31 = .ok (.iload 4, 2) := by decide +kernel
theorem dX5_inLeastTerms_33 : decode cX5_inLeastTerms 33 = .ok (.ifCond .ne 10, 3) := by decide +kernel
theorem dX5_inLeastTerms_36 : decode cX5_inLeastTerms 36 = .ok (.lload_n 0, 1) := by decide +kernel
theorem dX5_inLeastTerms_37 : decode cX5_inLeastTerms 37 = .ok (.lload 5, 2) := by decide +kernel
theorem dX5_inLeastTerms_39 : decode cX5_inLeastTerms 39 = .ok (.ldiv, 1) := by decide +kernel
theorem dX5_inLeastTerms_40 : decode cX5_inLeastTerms 40 = .ok (.goto 7, 3) := by decide +kernel
theorem dX5_inLeastTerms_43 : decode cX5_inLeastTerms 43 = .ok (.lload_n 2, 1) := by decide +kernel
theorem dX5_inLeastTerms_44 : decode cX5_inLeastTerms 44 = .ok (.lload 5, 2) := by decide +kernel
theorem dX5_inLeastTerms_46 : decode cX5_inLeastTerms 46 = .ok (.ldiv, 1) := by decide +kernel
theorem dX5_inLeastTerms_47 : decode cX5_inLeastTerms 47 = .ok (.lreturn, 1) := by decide +kernel
set_option maxRecDepth 20000 in
theorem ggX5_odds_X5_isPass : GoodIn wsX5_odds wsX5_isPass := goodIn_r _ [7, 2, 39, 40, 41, 42, 43, 44, 45, 46, 47, 48, 49, 50, 51, 52, 53, 54, 55, 56, 57, 58, 59, 60, 61] (by decide +kernel) (by decide +kernel)
set_option maxRecDepth 20000 in
theorem gX5_odds_X5_isPass : GoodIn wsX5_odds (wsV RX5 103 RX5 yX5_isPass wsX5_isPass) := goodIn_app (goodIn_of _ (by decide +kernel)) ggX5_odds_X5_isPass
set_option maxRecDepth 20000 in
theorem ggX5_odds_X5_isDigit : GoodIn wsX5_odds wsX5_isDigit := goodIn_r _ [10, 11, 12, 6, 13] (by decide +kernel) (by decide +kernel)
set_option maxRecDepth 20000 in
theorem gX5_odds_X5_isDigit : GoodIn wsX5_odds (va_wsS RX5 109 yX5_isDigit wsX5_isDigit) := goodIn_app (goodIn_of _ (by decide +kernel)) ggX5_odds_X5_isDigit
set_option maxRecDepth 20000 in
theorem ggX5_odds_X5_within : GoodIn wsX5_odds wsX5_within := goodIn_r _ [13] (by decide +kernel) (by decide +kernel)
set_option maxRecDepth 20000 in
theorem gX5_odds_X5_within : GoodIn wsX5_odds (va_wsS RX5 53 yX5_within wsX5_within) := goodIn_app (goodIn_of _ (by decide +kernel)) ggX5_odds_X5_within
set_option maxRecDepth 20000 in
theorem ggX5_odds_X5_fitsOf : GoodIn wsX5_odds wsX5_fitsOf := goodIn_r _ [17, 2, 18, 19, 20, 6, 21, 22, 23, 24, 25, 26, 27, 28, 29, 30, 31, 32, 33, 34, 35, 39, 40, 41, 42, 43, 44, 45, 46, 47, 48, 49, 50, 51, 52, 53, 54, 55, 56, 57, 58, 59, 60, 61] (by decide +kernel) (by decide +kernel)
set_option maxRecDepth 20000 in
theorem gX5_odds_X5_fitsOf : GoodIn wsX5_odds (wsV RX5 126 RX5 yX5_fitsOf wsX5_fitsOf) := goodIn_app (goodIn_of _ (by decide +kernel)) ggX5_odds_X5_fitsOf
set_option maxRecDepth 20000 in
theorem ggX5_odds_X5_inLeastTerms : GoodIn wsX5_odds wsX5_inLeastTerms := goodIn_r _ [38] (by decide +kernel) (by decide +kernel)
set_option maxRecDepth 20000 in
theorem gX5_odds_X5_inLeastTerms : GoodIn wsX5_odds (va_wsS RX5 163 yX5_inLeastTerms wsX5_inLeastTerms) := goodIn_app (goodIn_of _ (by decide +kernel)) ggX5_odds_X5_inLeastTerms
theorem dX5_odds_0 : decode cX5_odds 0 = .ok (.aload_n 0, 1) := by decide +kernel
theorem dX5_odds_1 : decode cX5_odds 1 = .ok (.iload_n 1, 1) := by decide +kernel
theorem dX5_odds_2 : decode cX5_odds 2 = .ok (.invokevirtual 103, 3) := by decide +kernel
theorem dX5_odds_5 : decode cX5_odds 5 = .ok (.ifCond .eq 19, 3) := by decide +kernel
theorem dX5_odds_8 : decode cX5_odds 8 = .ok (.iload_n 2, 1) := by decide +kernel
theorem dX5_odds_9 : decode cX5_odds 9 = .ok (.invokestatic 109, 3) := by decide +kernel
theorem dX5_odds_12 : decode cX5_odds 12 = .ok (.ifCond .eq 12, 3) := by decide +kernel
theorem dX5_odds_15 : decode cX5_odds 15 = .ok (.iload_n 3, 1) := by decide +kernel
theorem dX5_odds_16 : decode cX5_odds 16 = .ok (.iconst 0, 1) := by decide +kernel
theorem dX5_odds_17 : decode cX5_odds 17 = .ok (.iconst 1, 1) := by decide +kernel
theorem dX5_odds_18 : decode cX5_odds 18 = .ok (.invokestatic 53, 3) := by decide +kernel
theorem dX5_odds_21 : decode cX5_odds 21 = .ok (.ifCond .ne 7, 3) := by decide +kernel
theorem dX5_odds_24 : decode cX5_odds 24 = .ok (.ldc2_w 51, 3) := by decide +kernel
theorem dX5_odds_27 : decode cX5_odds 27 = .ok (.lreturn, 1) := by decide +kernel
theorem dX5_odds_28 : decode cX5_odds 28 = .ok (.aload_n 0, 1) := by decide +kernel
theorem dX5_odds_29 : decode cX5_odds 29 = .ok (.iload_n 1, 1) := by decide +kernel
theorem dX5_odds_30 : decode cX5_odds 30 = .ok (.iload_n 2, 1) := by decide +kernel
theorem dX5_odds_31 : decode cX5_odds 31 = .ok (.invokevirtual 126, 3) := by decide +kernel
theorem dX5_odds_34 : decode cX5_odds 34 = .ok (.istore 4, 2) := by decide +kernel
theorem dX5_odds_36 : decode cX5_odds 36 = .ok (.iconst 0, 1) := by decide +kernel
theorem dX5_odds_37 : decode cX5_odds 37 = .ok (.istore 5, 2) := by decide +kernel
theorem dX5_odds_39 : decode cX5_odds 39 = .ok (.iconst 0, 1) := by decide +kernel
theorem dX5_odds_40 : decode cX5_odds 40 = .ok (.istore 6, 2) := by decide +kernel
theorem dX5_odds_42 : decode cX5_odds 42 = .ok (.iload 6, 2) := by decide +kernel
theorem dX5_odds_44 : decode cX5_odds 44 = .ok (.iconst 1, 1) := by decide +kernel
theorem dX5_odds_45 : decode cX5_odds 45 = .ok (.aload_n 0, 1) := by decide +kernel
theorem dX5_odds_46 : decode cX5_odds 46 = .ok (.getfield 57, 3) := by decide +kernel
theorem dX5_odds_49 : decode cX5_odds 49 = .ok (.ishl, 1) := by decide +kernel
theorem dX5_odds_50 : decode cX5_odds 50 = .ok (.if_icmp .ge 27, 3) := by decide +kernel
theorem dX5_odds_53 : decode cX5_odds 53 = .ok (.iload 5, 2) := by decide +kernel
theorem dX5_odds_55 : decode cX5_odds 55 = .ok (.iload 4, 2) := by decide +kernel
theorem dX5_odds_57 : decode cX5_odds 57 = .ok (.iload 6, 2) := by decide +kernel
theorem dX5_odds_59 : decode cX5_odds 59 = .ok (.iand, 1) := by decide +kernel
theorem dX5_odds_60 : decode cX5_odds 60 = .ok (.ifCond .eq 7, 3) := by decide +kernel
theorem dX5_odds_63 : decode cX5_odds 63 = .ok (.iconst 1, 1) := by decide +kernel
theorem dX5_odds_64 : decode cX5_odds 64 = .ok (.goto 4, 3) := by decide +kernel
theorem dX5_odds_67 : decode cX5_odds 67 = .ok (.iconst 0, 1) := by decide +kernel
theorem dX5_odds_68 : decode cX5_odds 68 = .ok (.iadd, 1) := by decide +kernel
theorem dX5_odds_69 : decode cX5_odds 69 = .ok (.istore 5, 2) := by decide +kernel
theorem dX5_odds_71 : decode cX5_odds 71 = .ok (.iinc 6 1, 3) := by decide +kernel
theorem dX5_odds_74 : decode cX5_odds 74 = .ok (.goto (-32), 3) := by decide +kernel
theorem dX5_odds_77 : decode cX5_odds 77 = .ok (.iload 5, 2) := by decide +kernel
theorem dX5_odds_79 : decode cX5_odds 79 = .ok (.i2l, 1) := by decide +kernel
theorem dX5_odds_80 : decode cX5_odds 80 = .ok (.lconst 1, 1) := by decide +kernel
theorem dX5_odds_81 : decode cX5_odds 81 = .ok (.aload_n 0, 1) := by decide +kernel
theorem dX5_odds_82 : decode cX5_odds 82 = .ok (.getfield 57, 3) := by decide +kernel
theorem dX5_odds_85 : decode cX5_odds 85 = .ok (.lshl, 1) := by decide +kernel
theorem dX5_odds_86 : decode cX5_odds 86 = .ok (.iload_n 3, 1) := by decide +kernel
theorem dX5_odds_87 : decode cX5_odds 87 = .ok (.invokestatic 163, 3) := by decide +kernel
theorem dX5_odds_90 : decode cX5_odds 90 = .ok (.lreturn, 1) := by decide +kernel
set_option maxRecDepth 20000 in
theorem ggX5_sheet_X5_isSheet : GoodIn wsX5_sheet wsX5_isSheet := goodIn_r _ [8, 9, 10, 7, 11] (by decide +kernel) (by decide +kernel)
set_option maxRecDepth 20000 in
theorem gX5_sheet_X5_isSheet : GoodIn wsX5_sheet (va_wsS RX5 63 yX5_isSheet wsX5_isSheet) := goodIn_app (goodIn_of _ (by decide +kernel)) ggX5_sheet_X5_isSheet
set_option maxRecDepth 20000 in
theorem ggX5_sheet_X5_isSort : GoodIn wsX5_sheet wsX5_isSort := goodIn_r _ [14, 9, 10, 7, 11] (by decide +kernel) (by decide +kernel)
set_option maxRecDepth 20000 in
theorem gX5_sheet_X5_isSort : GoodIn wsX5_sheet (va_wsS RX5 67 yX5_isSort wsX5_isSort) := goodIn_app (goodIn_of _ (by decide +kernel)) ggX5_sheet_X5_isSort
set_option maxRecDepth 20000 in
theorem ggX5_sheet_X5_fails : GoodIn wsX5_sheet wsX5_fails := goodIn_r _ [18, 1, 19, 20, 21, 22, 23, 24, 25, 26, 27, 28, 29, 30, 31, 32, 33, 34, 35, 36, 37, 38, 39, 40, 41] (by decide +kernel) (by decide +kernel)
set_option maxRecDepth 20000 in
theorem gX5_sheet_X5_fails : GoodIn wsX5_sheet (wsV RX5 74 RX5 yX5_fails wsX5_fails) := goodIn_app (goodIn_of _ (by decide +kernel)) ggX5_sheet_X5_fails
theorem dX5_sheet_0 : decode cX5_sheet 0 = .ok (.aload_n 0, 1) := by decide +kernel
theorem dX5_sheet_1 : decode cX5_sheet 1 = .ok (.iconst 0, 1) := by decide +kernel
theorem dX5_sheet_2 : decode cX5_sheet 2 = .ok (.putfield 47, 3) := by decide +kernel
theorem dX5_sheet_5 : decode cX5_sheet 5 = .ok (.iload_n 1, 1) := by decide +kernel
theorem dX5_sheet_6 : decode cX5_sheet 6 = .ok (.invokestatic 63, 3) := by decide +kernel
theorem dX5_sheet_9 : decode cX5_sheet 9 = .ok (.ifCond .ne 5, 3) := by decide +kernel
theorem dX5_sheet_12 : decode cX5_sheet 12 = .ok (.iconst (-1), 1) := by decide +kernel
theorem dX5_sheet_13 : decode cX5_sheet 13 = .ok (.ireturn, 1) := by decide +kernel
theorem dX5_sheet_14 : decode cX5_sheet 14 = .ok (.iload_n 2, 1) := by decide +kernel
theorem dX5_sheet_15 : decode cX5_sheet 15 = .ok (.invokestatic 67, 3) := by decide +kernel
theorem dX5_sheet_18 : decode cX5_sheet 18 = .ok (.ifCond .eq 9, 3) := by decide +kernel
theorem dX5_sheet_21 : decode cX5_sheet 21 = .ok (.iload_n 3, 1) := by decide +kernel
theorem dX5_sheet_22 : decode cX5_sheet 22 = .ok (.bipush 60, 2) := by decide +kernel
theorem dX5_sheet_24 : decode cX5_sheet 24 = .ok (.if_icmp .le 6, 3) := by decide +kernel
theorem dX5_sheet_27 : decode cX5_sheet 27 = .ok (.bipush (-2), 2) := by decide +kernel
theorem dX5_sheet_29 : decode cX5_sheet 29 = .ok (.ireturn, 1) := by decide +kernel
theorem dX5_sheet_30 : decode cX5_sheet 30 = .ok (.iload_n 3, 1) := by decide +kernel
theorem dX5_sheet_31 : decode cX5_sheet 31 = .ok (.ifCond .ge 9, 3) := by decide +kernel
theorem dX5_sheet_34 : decode cX5_sheet 34 = .ok (.aload_n 0, 1) := by decide +kernel
theorem dX5_sheet_35 : decode cX5_sheet 35 = .ok (.iconst 4, 1) := by decide +kernel
theorem dX5_sheet_36 : decode cX5_sheet 36 = .ok (.invokevirtual 74, 3) := by decide +kernel
theorem dX5_sheet_39 : decode cX5_sheet 39 = .ok (.ireturn, 1) := by decide +kernel
theorem dX5_sheet_40 : decode cX5_sheet 40 = .ok (.aload_n 0, 1) := by decide +kernel
theorem dX5_sheet_41 : decode cX5_sheet 41 = .ok (.getfield 9, 3) := by decide +kernel
theorem dX5_sheet_44 : decode cX5_sheet 44 = .ok (.iload_n 1, 1) := by decide +kernel
theorem dX5_sheet_45 : decode cX5_sheet 45 = .ok (.iload_n 2, 1) := by decide +kernel
theorem dX5_sheet_46 : decode cX5_sheet 46 = .ok (.iastore, 1) := by decide +kernel
theorem dX5_sheet_47 : decode cX5_sheet 47 = .ok (.aload_n 0, 1) := by decide +kernel
theorem dX5_sheet_48 : decode cX5_sheet 48 = .ok (.getfield 13, 3) := by decide +kernel
theorem dX5_sheet_51 : decode cX5_sheet 51 = .ok (.iload_n 1, 1) := by decide +kernel
theorem dX5_sheet_52 : decode cX5_sheet 52 = .ok (.iload_n 3, 1) := by decide +kernel
theorem dX5_sheet_53 : decode cX5_sheet 53 = .ok (.iastore, 1) := by decide +kernel
theorem dX5_sheet_54 : decode cX5_sheet 54 = .ok (.iconst 0, 1) := by decide +kernel
theorem dX5_sheet_55 : decode cX5_sheet 55 = .ok (.istore 4, 2) := by decide +kernel
theorem dX5_sheet_57 : decode cX5_sheet 57 = .ok (.iload 4, 2) := by decide +kernel
theorem dX5_sheet_59 : decode cX5_sheet 59 = .ok (.bipush 60, 2) := by decide +kernel
theorem dX5_sheet_61 : decode cX5_sheet 61 = .ok (.if_icmp .ge 22, 3) := by decide +kernel
theorem dX5_sheet_64 : decode cX5_sheet 64 = .ok (.aload_n 0, 1) := by decide +kernel
theorem dX5_sheet_65 : decode cX5_sheet 65 = .ok (.getfield 16, 3) := by decide +kernel
theorem dX5_sheet_68 : decode cX5_sheet 68 = .ok (.bipush 60, 2) := by decide +kernel
theorem dX5_sheet_70 : decode cX5_sheet 70 = .ok (.iload_n 1, 1) := by decide +kernel
theorem dX5_sheet_71 : decode cX5_sheet 71 = .ok (.imul, 1) := by decide +kernel
theorem dX5_sheet_72 : decode cX5_sheet 72 = .ok (.iload 4, 2) := by decide +kernel
theorem dX5_sheet_74 : decode cX5_sheet 74 = .ok (.iadd, 1) := by decide +kernel
theorem dX5_sheet_75 : decode cX5_sheet 75 = .ok (.iconst 0, 1) := by decide +kernel
theorem dX5_sheet_76 : decode cX5_sheet 76 = .ok (.iastore, 1) := by decide +kernel
theorem dX5_sheet_77 : decode cX5_sheet 77 = .ok (.iinc 4 1, 3) := by decide +kernel
theorem dX5_sheet_80 : decode cX5_sheet 80 = .ok (.goto (-23), 3) := by decide +kernel
theorem dX5_sheet_83 : decode cX5_sheet 83 = .ok (.iconst 1, 1) := by decide +kernel
theorem dX5_sheet_84 : decode cX5_sheet 84 = .ok (.ireturn, 1) := by decide +kernel
set_option maxRecDepth 20000 in
theorem ggX5_lose_X5_isSheet : GoodIn wsX5_lose wsX5_isSheet := goodIn_r _ [5, 6, 7, 4, 8] (by decide +kernel) (by decide +kernel)
set_option maxRecDepth 20000 in
theorem gX5_lose_X5_isSheet : GoodIn wsX5_lose (va_wsS RX5 63 yX5_isSheet wsX5_isSheet) := goodIn_app (goodIn_of _ (by decide +kernel)) ggX5_lose_X5_isSheet
theorem dX5_lose_0 : decode cX5_lose 0 = .ok (.iload_n 1, 1) := by decide +kernel
theorem dX5_lose_1 : decode cX5_lose 1 = .ok (.invokestatic 63, 3) := by decide +kernel
theorem dX5_lose_4 : decode cX5_lose 4 = .ok (.ifCond .ne 5, 3) := by decide +kernel
theorem dX5_lose_7 : decode cX5_lose 7 = .ok (.iconst (-1), 1) := by decide +kernel
theorem dX5_lose_8 : decode cX5_lose 8 = .ok (.ireturn, 1) := by decide +kernel
theorem dX5_lose_9 : decode cX5_lose 9 = .ok (.aload_n 0, 1) := by decide +kernel
theorem dX5_lose_10 : decode cX5_lose 10 = .ok (.getfield 9, 3) := by decide +kernel
theorem dX5_lose_13 : decode cX5_lose 13 = .ok (.iload_n 1, 1) := by decide +kernel
theorem dX5_lose_14 : decode cX5_lose 14 = .ok (.iaload, 1) := by decide +kernel
theorem dX5_lose_15 : decode cX5_lose 15 = .ok (.bipush (-9), 2) := by decide +kernel
theorem dX5_lose_17 : decode cX5_lose 17 = .ok (.if_icmp .ne 7, 3) := by decide +kernel
theorem dX5_lose_20 : decode cX5_lose 20 = .ok (.iconst 0, 1) := by decide +kernel
theorem dX5_lose_21 : decode cX5_lose 21 = .ok (.goto 4, 3) := by decide +kernel
theorem dX5_lose_24 : decode cX5_lose 24 = .ok (.iconst 1, 1) := by decide +kernel
theorem dX5_lose_25 : decode cX5_lose 25 = .ok (.istore_n 2, 1) := by decide +kernel
theorem dX5_lose_26 : decode cX5_lose 26 = .ok (.aload_n 0, 1) := by decide +kernel
theorem dX5_lose_27 : decode cX5_lose 27 = .ok (.getfield 9, 3) := by decide +kernel
theorem dX5_lose_30 : decode cX5_lose 30 = .ok (.iload_n 1, 1) := by decide +kernel
theorem dX5_lose_31 : decode cX5_lose 31 = .ok (.bipush (-9), 2) := by decide +kernel
theorem dX5_lose_33 : decode cX5_lose 33 = .ok (.iastore, 1) := by decide +kernel
theorem dX5_lose_34 : decode cX5_lose 34 = .ok (.iload_n 2, 1) := by decide +kernel
theorem dX5_lose_35 : decode cX5_lose 35 = .ok (.ireturn, 1) := by decide +kernel
set_option maxRecDepth 20000 in
theorem ggX5_put_X5_isSheet : GoodIn wsX5_put wsX5_isSheet := goodIn_r _ [8, 9, 10, 7, 11] (by decide +kernel) (by decide +kernel)
set_option maxRecDepth 20000 in
theorem gX5_put_X5_isSheet : GoodIn wsX5_put (va_wsS RX5 63 yX5_isSheet wsX5_isSheet) := goodIn_app (goodIn_of _ (by decide +kernel)) ggX5_put_X5_isSheet
set_option maxRecDepth 20000 in
theorem ggX5_put_X5_fails : GoodIn wsX5_put wsX5_fails := goodIn_r _ [15, 1, 16, 17, 18, 19, 20, 21, 22, 23, 24, 25, 26, 27, 28, 29, 30, 31, 32, 33, 34, 35, 36, 37, 38] (by decide +kernel) (by decide +kernel)
set_option maxRecDepth 20000 in
theorem gX5_put_X5_fails : GoodIn wsX5_put (wsV RX5 74 RX5 yX5_fails wsX5_fails) := goodIn_app (goodIn_of _ (by decide +kernel)) ggX5_put_X5_fails
set_option maxRecDepth 20000 in
theorem ggX5_put_X5_within : GoodIn wsX5_put wsX5_within := goodIn_r _ [11] (by decide +kernel) (by decide +kernel)
set_option maxRecDepth 20000 in
theorem gX5_put_X5_within : GoodIn wsX5_put (va_wsS RX5 53 yX5_within wsX5_within) := goodIn_app (goodIn_of _ (by decide +kernel)) ggX5_put_X5_within
theorem dX5_put_0 : decode cX5_put 0 = .ok (.aload_n 0, 1) := by decide +kernel
theorem dX5_put_1 : decode cX5_put 1 = .ok (.iconst 0, 1) := by decide +kernel
theorem dX5_put_2 : decode cX5_put 2 = .ok (.putfield 47, 3) := by decide +kernel
theorem dX5_put_5 : decode cX5_put 5 = .ok (.iload_n 1, 1) := by decide +kernel
theorem dX5_put_6 : decode cX5_put 6 = .ok (.invokestatic 63, 3) := by decide +kernel
theorem dX5_put_9 : decode cX5_put 9 = .ok (.ifCond .ne 5, 3) := by decide +kernel
theorem dX5_put_12 : decode cX5_put 12 = .ok (.iconst (-1), 1) := by decide +kernel
theorem dX5_put_13 : decode cX5_put 13 = .ok (.ireturn, 1) := by decide +kernel
theorem dX5_put_14 : decode cX5_put 14 = .ok (.aload_n 0, 1) := by decide +kernel
theorem dX5_put_15 : decode cX5_put 15 = .ok (.getfield 9, 3) := by decide +kernel
theorem dX5_put_18 : decode cX5_put 18 = .ok (.iload_n 1, 1) := by decide +kernel
theorem dX5_put_19 : decode cX5_put 19 = .ok (.iaload, 1) := by decide +kernel
theorem dX5_put_20 : decode cX5_put 20 = .ok (.bipush (-9), 2) := by decide +kernel
theorem dX5_put_22 : decode cX5_put 22 = .ok (.if_icmp .ne 9, 3) := by decide +kernel
theorem dX5_put_25 : decode cX5_put 25 = .ok (.aload_n 0, 1) := by decide +kernel
theorem dX5_put_26 : decode cX5_put 26 = .ok (.iconst 1, 1) := by decide +kernel
theorem dX5_put_27 : decode cX5_put 27 = .ok (.invokevirtual 74, 3) := by decide +kernel
theorem dX5_put_30 : decode cX5_put 30 = .ok (.ireturn, 1) := by decide +kernel
theorem dX5_put_31 : decode cX5_put 31 = .ok (.iload_n 2, 1) := by decide +kernel
theorem dX5_put_32 : decode cX5_put 32 = .ok (.iconst 0, 1) := by decide +kernel
theorem dX5_put_33 : decode cX5_put 33 = .ok (.aload_n 0, 1) := by decide +kernel
theorem dX5_put_34 : decode cX5_put 34 = .ok (.getfield 13, 3) := by decide +kernel
theorem dX5_put_37 : decode cX5_put 37 = .ok (.iload_n 1, 1) := by decide +kernel
theorem dX5_put_38 : decode cX5_put 38 = .ok (.iaload, 1) := by decide +kernel
theorem dX5_put_39 : decode cX5_put 39 = .ok (.iconst 1, 1) := by decide +kernel
theorem dX5_put_40 : decode cX5_put 40 = .ok (.isub, 1) := by decide +kernel
theorem dX5_put_41 : decode cX5_put 41 = .ok (.invokestatic 53, 3) := by decide +kernel
theorem dX5_put_44 : decode cX5_put 44 = .ok (.ifCond .ne 9, 3) := by decide +kernel
theorem dX5_put_47 : decode cX5_put 47 = .ok (.aload_n 0, 1) := by decide +kernel
theorem dX5_put_48 : decode cX5_put 48 = .ok (.iconst 3, 1) := by decide +kernel
theorem dX5_put_49 : decode cX5_put 49 = .ok (.invokevirtual 74, 3) := by decide +kernel
theorem dX5_put_52 : decode cX5_put 52 = .ok (.ireturn, 1) := by decide +kernel
theorem dX5_put_53 : decode cX5_put 53 = .ok (.aload_n 0, 1) := by decide +kernel
theorem dX5_put_54 : decode cX5_put 54 = .ok (.getfield 16, 3) := by decide +kernel
theorem dX5_put_57 : decode cX5_put 57 = .ok (.bipush 60, 2) := by decide +kernel
theorem dX5_put_59 : decode cX5_put 59 = .ok (.iload_n 1, 1) := by decide +kernel
theorem dX5_put_60 : decode cX5_put 60 = .ok (.imul, 1) := by decide +kernel
theorem dX5_put_61 : decode cX5_put 61 = .ok (.iload_n 2, 1) := by decide +kernel
theorem dX5_put_62 : decode cX5_put 62 = .ok (.iadd, 1) := by decide +kernel
theorem dX5_put_63 : decode cX5_put 63 = .ok (.aload_n 0, 1) := by decide +kernel
theorem dX5_put_64 : decode cX5_put 64 = .ok (.getfield 9, 3) := by decide +kernel
theorem dX5_put_67 : decode cX5_put 67 = .ok (.iload_n 1, 1) := by decide +kernel
theorem dX5_put_68 : decode cX5_put 68 = .ok (.iaload, 1) := by decide +kernel
theorem dX5_put_69 : decode cX5_put 69 = .ok (.ifCond .ne 8, 3) := by decide +kernel
theorem dX5_put_72 : decode cX5_put 72 = .ok (.iload_n 3, 1) := by decide +kernel
theorem dX5_put_73 : decode cX5_put 73 = .ok (.i2b, 1) := by decide +kernel
theorem dX5_put_74 : decode cX5_put 74 = .ok (.goto 19, 3) := by decide +kernel
theorem dX5_put_77 : decode cX5_put 77 = .ok (.aload_n 0, 1) := by decide +kernel
theorem dX5_put_78 : decode cX5_put 78 = .ok (.getfield 9, 3) := by decide +kernel
theorem dX5_put_81 : decode cX5_put 81 = .ok (.iload_n 1, 1) := by decide +kernel
theorem dX5_put_82 : decode cX5_put 82 = .ok (.iaload, 1) := by decide +kernel
theorem dX5_put_83 : decode cX5_put 83 = .ok (.iconst 1, 1) := by decide +kernel
theorem dX5_put_84 : decode cX5_put 84 = .ok (.if_icmp .ne 8, 3) := by decide +kernel
theorem dX5_put_87 : decode cX5_put 87 = .ok (.iload_n 3, 1) := by decide +kernel
theorem dX5_put_88 : decode cX5_put 88 = .ok (.i2s, 1) := by decide +kernel
theorem dX5_put_89 : decode cX5_put 89 = .ok (.goto 4, 3) := by decide +kernel
theorem dX5_put_92 : decode cX5_put 92 = .ok (.iload_n 3, 1) := by decide +kernel
theorem dX5_put_93 : decode cX5_put 93 = .ok (.iastore, 1) := by decide +kernel
theorem dX5_put_94 : decode cX5_put 94 = .ok (.iconst 1, 1) := by decide +kernel
theorem dX5_put_95 : decode cX5_put 95 = .ok (.ireturn, 1) := by decide +kernel
set_option maxRecDepth 20000 in
theorem ggX5_cell_X5_isSheet : GoodIn wsX5_cell wsX5_isSheet := goodIn_r _ [9, 10, 11, 8, 12] (by decide +kernel) (by decide +kernel)
set_option maxRecDepth 20000 in
theorem gX5_cell_X5_isSheet : GoodIn wsX5_cell (va_wsS RX5 63 yX5_isSheet wsX5_isSheet) := goodIn_app (goodIn_of _ (by decide +kernel)) ggX5_cell_X5_isSheet
set_option maxRecDepth 20000 in
theorem ggX5_cell_X5_isSort : GoodIn wsX5_cell wsX5_isSort := goodIn_r _ [15, 10, 11, 8, 12] (by decide +kernel) (by decide +kernel)
set_option maxRecDepth 20000 in
theorem gX5_cell_X5_isSort : GoodIn wsX5_cell (va_wsS RX5 67 yX5_isSort wsX5_isSort) := goodIn_app (goodIn_of _ (by decide +kernel)) ggX5_cell_X5_isSort
set_option maxRecDepth 20000 in
theorem ggX5_cell_X5_lost : GoodIn wsX5_cell wsX5_lost := goodIn_r _ [19, 1, 2, 20, 21, 22, 23, 24, 25, 26, 27, 28, 29, 30, 31, 32, 33, 34, 35, 36, 37, 38, 39, 40, 41, 42] (by decide +kernel) (by decide +kernel)
set_option maxRecDepth 20000 in
theorem gX5_cell_X5_lost : GoodIn wsX5_cell (wsV RX5 167 RX5 yX5_lost wsX5_lost) := goodIn_app (goodIn_of _ (by decide +kernel)) ggX5_cell_X5_lost
set_option maxRecDepth 20000 in
theorem ggX5_cell_X5_within : GoodIn wsX5_cell wsX5_within := goodIn_r _ [12] (by decide +kernel) (by decide +kernel)
set_option maxRecDepth 20000 in
theorem gX5_cell_X5_within : GoodIn wsX5_cell (va_wsS RX5 53 yX5_within wsX5_within) := goodIn_app (goodIn_of _ (by decide +kernel)) ggX5_cell_X5_within
theorem dX5_cell_0 : decode cX5_cell 0 = .ok (.aload_n 0, 1) := by decide +kernel
theorem dX5_cell_1 : decode cX5_cell 1 = .ok (.iconst 0, 1) := by decide +kernel
theorem dX5_cell_2 : decode cX5_cell 2 = .ok (.putfield 47, 3) := by decide +kernel
theorem dX5_cell_5 : decode cX5_cell 5 = .ok (.iload_n 1, 1) := by decide +kernel
theorem dX5_cell_6 : decode cX5_cell 6 = .ok (.invokestatic 63, 3) := by decide +kernel
theorem dX5_cell_9 : decode cX5_cell 9 = .ok (.ifCond .eq 10, 3) := by decide +kernel
theorem dX5_cell_12 : decode cX5_cell 12 = .ok (.iload_n 3, 1) := by decide +kernel
theorem dX5_cell_13 : decode cX5_cell 13 = .ok (.invokestatic 67, 3) := by decide +kernel
theorem dX5_cell_16 : decode cX5_cell 16 = .ok (.ifCond .ne 7, 3) := by decide +kernel
theorem dX5_cell_19 : decode cX5_cell 19 = .ok (.ldc2_w 51, 3) := by decide +kernel
theorem dX5_cell_22 : decode cX5_cell 22 = .ok (.lreturn, 1) := by decide +kernel
theorem dX5_cell_23 : decode cX5_cell 23 = .ok (.aload_n 0, 1) := by decide +kernel
theorem dX5_cell_24 : decode cX5_cell 24 = .ok (.getfield 9, 3) := by decide +kernel
theorem dX5_cell_27 : decode cX5_cell 27 = .ok (.iload_n 1, 1) := by decide +kernel
theorem dX5_cell_28 : decode cX5_cell 28 = .ok (.iaload, 1) := by decide +kernel
theorem dX5_cell_29 : decode cX5_cell 29 = .ok (.bipush (-9), 2) := by decide +kernel
theorem dX5_cell_31 : decode cX5_cell 31 = .ok (.if_icmp .eq 19, 3) := by decide +kernel
theorem dX5_cell_34 : decode cX5_cell 34 = .ok (.aload_n 0, 1) := by decide +kernel
theorem dX5_cell_35 : decode cX5_cell 35 = .ok (.getfield 9, 3) := by decide +kernel
theorem dX5_cell_38 : decode cX5_cell 38 = .ok (.iload_n 1, 1) := by decide +kernel
theorem dX5_cell_39 : decode cX5_cell 39 = .ok (.iaload, 1) := by decide +kernel
theorem dX5_cell_40 : decode cX5_cell 40 = .ok (.iload_n 3, 1) := by decide +kernel
theorem dX5_cell_41 : decode cX5_cell 41 = .ok (.if_icmp .eq 9, 3) := by decide +kernel
theorem dX5_cell_44 : decode cX5_cell 44 = .ok (.aload_n 0, 1) := by decide +kernel
theorem dX5_cell_45 : decode cX5_cell 45 = .ok (.iconst 2, 1) := by decide +kernel
theorem dX5_cell_46 : decode cX5_cell 46 = .ok (.invokevirtual 167, 3) := by decide +kernel
theorem dX5_cell_49 : decode cX5_cell 49 = .ok (.lreturn, 1) := by decide +kernel
theorem dX5_cell_50 : decode cX5_cell 50 = .ok (.aload_n 0, 1) := by decide +kernel
theorem dX5_cell_51 : decode cX5_cell 51 = .ok (.getfield 9, 3) := by decide +kernel
theorem dX5_cell_54 : decode cX5_cell 54 = .ok (.iload_n 1, 1) := by decide +kernel
theorem dX5_cell_55 : decode cX5_cell 55 = .ok (.iaload, 1) := by decide +kernel
theorem dX5_cell_56 : decode cX5_cell 56 = .ok (.bipush (-9), 2) := by decide +kernel
theorem dX5_cell_58 : decode cX5_cell 58 = .ok (.if_icmp .ne 9, 3) := by decide +kernel
theorem dX5_cell_61 : decode cX5_cell 61 = .ok (.aload_n 0, 1) := by decide +kernel
theorem dX5_cell_62 : decode cX5_cell 62 = .ok (.iconst 1, 1) := by decide +kernel
theorem dX5_cell_63 : decode cX5_cell 63 = .ok (.invokevirtual 167, 3) := by decide +kernel
theorem dX5_cell_66 : decode cX5_cell 66 = .ok (.lreturn, 1) := by decide +kernel
theorem dX5_cell_67 : decode cX5_cell 67 = .ok (.iload_n 2, 1) := by decide +kernel
theorem dX5_cell_68 : decode cX5_cell 68 = .ok (.iconst 0, 1) := by decide +kernel
theorem dX5_cell_69 : decode cX5_cell 69 = .ok (.aload_n 0, 1) := by decide +kernel
theorem dX5_cell_70 : decode cX5_cell 70 = .ok (.getfield 13, 3) := by decide +kernel
theorem dX5_cell_73 : decode cX5_cell 73 = .ok (.iload_n 1, 1) := by decide +kernel
theorem dX5_cell_74 : decode cX5_cell 74 = .ok (.iaload, 1) := by decide +kernel
theorem dX5_cell_75 : decode cX5_cell 75 = .ok (.iconst 1, 1) := by decide +kernel
theorem dX5_cell_76 : decode cX5_cell 76 = .ok (.isub, 1) := by decide +kernel
theorem dX5_cell_77 : decode cX5_cell 77 = .ok (.invokestatic 53, 3) := by decide +kernel
theorem dX5_cell_80 : decode cX5_cell 80 = .ok (.ifCond .ne 9, 3) := by decide +kernel
theorem dX5_cell_83 : decode cX5_cell 83 = .ok (.aload_n 0, 1) := by decide +kernel
theorem dX5_cell_84 : decode cX5_cell 84 = .ok (.iconst 3, 1) := by decide +kernel
theorem dX5_cell_85 : decode cX5_cell 85 = .ok (.invokevirtual 167, 3) := by decide +kernel
theorem dX5_cell_88 : decode cX5_cell 88 = .ok (.lreturn, 1) := by decide +kernel
theorem dX5_cell_89 : decode cX5_cell 89 = .ok (.aload_n 0, 1) := by decide +kernel
theorem dX5_cell_90 : decode cX5_cell 90 = .ok (.getfield 16, 3) := by decide +kernel
theorem dX5_cell_93 : decode cX5_cell 93 = .ok (.bipush 60, 2) := by decide +kernel
theorem dX5_cell_95 : decode cX5_cell 95 = .ok (.iload_n 1, 1) := by decide +kernel
theorem dX5_cell_96 : decode cX5_cell 96 = .ok (.imul, 1) := by decide +kernel
theorem dX5_cell_97 : decode cX5_cell 97 = .ok (.iload_n 2, 1) := by decide +kernel
theorem dX5_cell_98 : decode cX5_cell 98 = .ok (.iadd, 1) := by decide +kernel
theorem dX5_cell_99 : decode cX5_cell 99 = .ok (.iaload, 1) := by decide +kernel
theorem dX5_cell_100 : decode cX5_cell 100 = .ok (.i2l, 1) := by decide +kernel
theorem dX5_cell_101 : decode cX5_cell 101 = .ok (.lreturn, 1) := by decide +kernel
set_option maxRecDepth 20000 in
theorem ggX5_copy_X5_isSheet : GoodIn wsX5_copy wsX5_isSheet := goodIn_r _ [8, 9, 10, 7, 11] (by decide +kernel) (by decide +kernel)
set_option maxRecDepth 20000 in
theorem gX5_copy_X5_isSheet : GoodIn wsX5_copy (va_wsS RX5 63 yX5_isSheet wsX5_isSheet) := goodIn_app (goodIn_of _ (by decide +kernel)) ggX5_copy_X5_isSheet
set_option maxRecDepth 20000 in
theorem ggX5_copy_X5_fails : GoodIn wsX5_copy wsX5_fails := goodIn_r _ [15, 1, 16, 17, 18, 19, 20, 21, 22, 23, 24, 25, 26, 27, 28, 29, 30, 31, 32, 33, 34, 35, 36, 37, 38] (by decide +kernel) (by decide +kernel)
set_option maxRecDepth 20000 in
theorem gX5_copy_X5_fails : GoodIn wsX5_copy (wsV RX5 74 RX5 yX5_fails wsX5_fails) := goodIn_app (goodIn_of _ (by decide +kernel)) ggX5_copy_X5_fails
theorem dX5_copy_0 : decode cX5_copy 0 = .ok (.aload_n 0, 1) := by decide +kernel
theorem dX5_copy_1 : decode cX5_copy 1 = .ok (.iconst 0, 1) := by decide +kernel
theorem dX5_copy_2 : decode cX5_copy 2 = .ok (.putfield 47, 3) := by decide +kernel
theorem dX5_copy_5 : decode cX5_copy 5 = .ok (.iload_n 1, 1) := by decide +kernel
theorem dX5_copy_6 : decode cX5_copy 6 = .ok (.invokestatic 63, 3) := by decide +kernel
theorem dX5_copy_9 : decode cX5_copy 9 = .ok (.ifCond .eq 10, 3) := by decide +kernel
theorem dX5_copy_12 : decode cX5_copy 12 = .ok (.iload_n 3, 1) := by decide +kernel
theorem dX5_copy_13 : decode cX5_copy 13 = .ok (.invokestatic 63, 3) := by decide +kernel
theorem dX5_copy_16 : decode cX5_copy 16 = .ok (.ifCond .ne 5, 3) := by decide +kernel
theorem dX5_copy_19 : decode cX5_copy 19 = .ok (.iconst (-1), 1) := by decide +kernel
theorem dX5_copy_20 : decode cX5_copy 20 = .ok (.ireturn, 1) := by decide +kernel
theorem dX5_copy_21 : decode cX5_copy 21 = .ok (.aload_n 0, 1) := by decide +kernel
theorem dX5_copy_22 : decode cX5_copy 22 = .ok (.getfield 9, 3) := by decide +kernel
theorem dX5_copy_25 : decode cX5_copy 25 = .ok (.iload_n 1, 1) := by decide +kernel
theorem dX5_copy_26 : decode cX5_copy 26 = .ok (.iaload, 1) := by decide +kernel
theorem dX5_copy_27 : decode cX5_copy 27 = .ok (.bipush (-9), 2) := by decide +kernel
theorem dX5_copy_29 : decode cX5_copy 29 = .ok (.if_icmp .eq 14, 3) := by decide +kernel
theorem dX5_copy_32 : decode cX5_copy 32 = .ok (.aload_n 0, 1) := by decide +kernel
theorem dX5_copy_33 : decode cX5_copy 33 = .ok (.getfield 9, 3) := by decide +kernel
theorem dX5_copy_36 : decode cX5_copy 36 = .ok (.iload_n 3, 1) := by decide +kernel
theorem dX5_copy_37 : decode cX5_copy 37 = .ok (.iaload, 1) := by decide +kernel
theorem dX5_copy_38 : decode cX5_copy 38 = .ok (.bipush (-9), 2) := by decide +kernel
theorem dX5_copy_40 : decode cX5_copy 40 = .ok (.if_icmp .ne 9, 3) := by decide +kernel
theorem dX5_copy_43 : decode cX5_copy 43 = .ok (.aload_n 0, 1) := by decide +kernel
theorem dX5_copy_44 : decode cX5_copy 44 = .ok (.iconst 1, 1) := by decide +kernel
theorem dX5_copy_45 : decode cX5_copy 45 = .ok (.invokevirtual 74, 3) := by decide +kernel
theorem dX5_copy_48 : decode cX5_copy 48 = .ok (.ireturn, 1) := by decide +kernel
theorem dX5_copy_49 : decode cX5_copy 49 = .ok (.aload_n 0, 1) := by decide +kernel
theorem dX5_copy_50 : decode cX5_copy 50 = .ok (.getfield 9, 3) := by decide +kernel
theorem dX5_copy_53 : decode cX5_copy 53 = .ok (.iload_n 1, 1) := by decide +kernel
theorem dX5_copy_54 : decode cX5_copy 54 = .ok (.iaload, 1) := by decide +kernel
theorem dX5_copy_55 : decode cX5_copy 55 = .ok (.aload_n 0, 1) := by decide +kernel
theorem dX5_copy_56 : decode cX5_copy 56 = .ok (.getfield 9, 3) := by decide +kernel
theorem dX5_copy_59 : decode cX5_copy 59 = .ok (.iload_n 3, 1) := by decide +kernel
theorem dX5_copy_60 : decode cX5_copy 60 = .ok (.iaload, 1) := by decide +kernel
theorem dX5_copy_61 : decode cX5_copy 61 = .ok (.if_icmp .eq 9, 3) := by decide +kernel
theorem dX5_copy_64 : decode cX5_copy 64 = .ok (.aload_n 0, 1) := by decide +kernel
theorem dX5_copy_65 : decode cX5_copy 65 = .ok (.iconst 2, 1) := by decide +kernel
theorem dX5_copy_66 : decode cX5_copy 66 = .ok (.invokevirtual 74, 3) := by decide +kernel
theorem dX5_copy_69 : decode cX5_copy 69 = .ok (.ireturn, 1) := by decide +kernel
theorem dX5_copy_70 : decode cX5_copy 70 = .ok (.iload_n 2, 1) := by decide +kernel
theorem dX5_copy_71 : decode cX5_copy 71 = .ok (.ifCond .lt 38, 3) := by decide +kernel
theorem dX5_copy_74 : decode cX5_copy 74 = .ok (.iload 4, 2) := by decide +kernel
theorem dX5_copy_76 : decode cX5_copy 76 = .ok (.ifCond .lt 33, 3) := by decide +kernel
theorem dX5_copy_79 : decode cX5_copy 79 = .ok (.iload 5, 2) := by decide +kernel
theorem dX5_copy_81 : decode cX5_copy 81 = .ok (.ifCond .lt 28, 3) := by decide +kernel
theorem dX5_copy_84 : decode cX5_copy 84 = .ok (.iload_n 2, 1) := by decide +kernel
theorem dX5_copy_85 : decode cX5_copy 85 = .ok (.aload_n 0, 1) := by decide +kernel
theorem dX5_copy_86 : decode cX5_copy 86 = .ok (.getfield 13, 3) := by decide +kernel
theorem dX5_copy_89 : decode cX5_copy 89 = .ok (.iload_n 1, 1) := by decide +kernel
theorem dX5_copy_90 : decode cX5_copy 90 = .ok (.iaload, 1) := by decide +kernel
theorem dX5_copy_91 : decode cX5_copy 91 = .ok (.if_icmp .gt 18, 3) := by decide +kernel
theorem dX5_copy_94 : decode cX5_copy 94 = .ok (.iload 4, 2) := by decide +kernel
theorem dX5_copy_96 : decode cX5_copy 96 = .ok (.aload_n 0, 1) := by decide +kernel
theorem dX5_copy_97 : decode cX5_copy 97 = .ok (.getfield 13, 3) := by decide +kernel
theorem dX5_copy_100 : decode cX5_copy 100 = .ok (.iload_n 3, 1) := by decide +kernel
theorem dX5_copy_101 : decode cX5_copy 101 = .ok (.iaload, 1) := by decide +kernel
theorem dX5_copy_102 : decode cX5_copy 102 = .ok (.if_icmp .gt 7, 3) := by decide +kernel
theorem dX5_copy_105 : decode cX5_copy 105 = .ok (.iconst 1, 1) := by decide +kernel
theorem dX5_copy_106 : decode cX5_copy 106 = .ok (.goto 4, 3) := by decide +kernel
theorem dX5_copy_109 : decode cX5_copy 109 = .ok (.iconst 0, 1) := by decide +kernel
theorem dX5_copy_110 : decode cX5_copy 110 = .ok (.istore 6, 2) := by decide +kernel
theorem dX5_copy_112 : decode cX5_copy 112 = .ok (.iload 6, 2) := by decide +kernel
theorem dX5_copy_114 : decode cX5_copy 114 = .ok (.ifCond .eq 30, 3) := by decide +kernel
theorem dX5_copy_117 : decode cX5_copy 117 = .ok (.iload 5, 2) := by decide +kernel
theorem dX5_copy_119 : decode cX5_copy 119 = .ok (.aload_n 0, 1) := by decide +kernel
theorem dX5_copy_120 : decode cX5_copy 120 = .ok (.getfield 13, 3) := by decide +kernel
theorem dX5_copy_123 : decode cX5_copy 123 = .ok (.iload_n 1, 1) := by decide +kernel
theorem dX5_copy_124 : decode cX5_copy 124 = .ok (.iaload, 1) := by decide +kernel
theorem dX5_copy_125 : decode cX5_copy 125 = .ok (.iload_n 2, 1) := by decide +kernel
theorem dX5_copy_126 : decode cX5_copy 126 = .ok (.isub, 1) := by decide +kernel
theorem dX5_copy_127 : decode cX5_copy 127 = .ok (.if_icmp .gt 17, 3) := by decide +kernel
theorem dX5_copy_130 : decode cX5_copy 130 = .ok (.iload 5, 2) := by decide +kernel
theorem dX5_copy_132 : decode cX5_copy 132 = .ok (.aload_n 0, 1) := by decide +kernel
theorem dX5_copy_133 : decode cX5_copy 133 = .ok (.getfield 13, 3) := by decide +kernel
theorem dX5_copy_136 : decode cX5_copy 136 = .ok (.iload_n 3, 1) := by decide +kernel
theorem dX5_copy_137 : decode cX5_copy 137 = .ok (.iaload, 1) := by decide +kernel
theorem dX5_copy_138 : decode cX5_copy 138 = .ok (.iload 4, 2) := by decide +kernel
theorem dX5_copy_140 : decode cX5_copy 140 = .ok (.isub, 1) := by decide +kernel
theorem dX5_copy_141 : decode cX5_copy 141 = .ok (.if_icmp .le 9, 3) := by decide +kernel
theorem dX5_copy_144 : decode cX5_copy 144 = .ok (.aload_n 0, 1) := by decide +kernel
theorem dX5_copy_145 : decode cX5_copy 145 = .ok (.iconst 3, 1) := by decide +kernel
theorem dX5_copy_146 : decode cX5_copy 146 = .ok (.invokevirtual 74, 3) := by decide +kernel
theorem dX5_copy_149 : decode cX5_copy 149 = .ok (.ireturn, 1) := by decide +kernel
theorem dX5_copy_150 : decode cX5_copy 150 = .ok (.iload_n 2, 1) := by decide +kernel
theorem dX5_copy_151 : decode cX5_copy 151 = .ok (.iload 4, 2) := by decide +kernel
theorem dX5_copy_153 : decode cX5_copy 153 = .ok (.if_icmp .ge 7, 3) := by decide +kernel
theorem dX5_copy_156 : decode cX5_copy 156 = .ok (.iconst 1, 1) := by decide +kernel
theorem dX5_copy_157 : decode cX5_copy 157 = .ok (.goto 4, 3) := by decide +kernel
theorem dX5_copy_160 : decode cX5_copy 160 = .ok (.iconst 0, 1) := by decide +kernel
theorem dX5_copy_161 : decode cX5_copy 161 = .ok (.istore 7, 2) := by decide +kernel
theorem dX5_copy_163 : decode cX5_copy 163 = .ok (.iconst 0, 1) := by decide +kernel
theorem dX5_copy_164 : decode cX5_copy 164 = .ok (.istore 8, 2) := by decide +kernel
theorem dX5_copy_166 : decode cX5_copy 166 = .ok (.iload 8, 2) := by decide +kernel
theorem dX5_copy_168 : decode cX5_copy 168 = .ok (.iload 5, 2) := by decide +kernel
theorem dX5_copy_170 : decode cX5_copy 170 = .ok (.if_icmp .ge 57, 3) := by decide +kernel
theorem dX5_copy_173 : decode cX5_copy 173 = .ok (.iload 7, 2) := by decide +kernel
theorem dX5_copy_175 : decode cX5_copy 175 = .ok (.ifCond .eq 13, 3) := by decide +kernel
theorem dX5_copy_178 : decode cX5_copy 178 = .ok (.iload 5, 2) := by decide +kernel
theorem dX5_copy_180 : decode cX5_copy 180 = .ok (.iconst 1, 1) := by decide +kernel
theorem dX5_copy_181 : decode cX5_copy 181 = .ok (.isub, 1) := by decide +kernel
theorem dX5_copy_182 : decode cX5_copy 182 = .ok (.iload 8, 2) := by decide +kernel
theorem dX5_copy_184 : decode cX5_copy 184 = .ok (.isub, 1) := by decide +kernel
theorem dX5_copy_185 : decode cX5_copy 185 = .ok (.goto 5, 3) := by decide +kernel
theorem dX5_copy_188 : decode cX5_copy 188 = .ok (.iload 8, 2) := by decide +kernel
theorem dX5_copy_190 : decode cX5_copy 190 = .ok (.istore 9, 2) := by decide +kernel
theorem dX5_copy_192 : decode cX5_copy 192 = .ok (.aload_n 0, 1) := by decide +kernel
theorem dX5_copy_193 : decode cX5_copy 193 = .ok (.getfield 16, 3) := by decide +kernel
theorem dX5_copy_196 : decode cX5_copy 196 = .ok (.bipush 60, 2) := by decide +kernel
theorem dX5_copy_198 : decode cX5_copy 198 = .ok (.iload_n 3, 1) := by decide +kernel
theorem dX5_copy_199 : decode cX5_copy 199 = .ok (.imul, 1) := by decide +kernel
theorem dX5_copy_200 : decode cX5_copy 200 = .ok (.iload 4, 2) := by decide +kernel
theorem dX5_copy_202 : decode cX5_copy 202 = .ok (.iadd, 1) := by decide +kernel
theorem dX5_copy_203 : decode cX5_copy 203 = .ok (.iload 9, 2) := by decide +kernel
theorem dX5_copy_205 : decode cX5_copy 205 = .ok (.iadd, 1) := by decide +kernel
theorem dX5_copy_206 : decode cX5_copy 206 = .ok (.aload_n 0, 1) := by decide +kernel
theorem dX5_copy_207 : decode cX5_copy 207 = .ok (.getfield 16, 3) := by decide +kernel
theorem dX5_copy_210 : decode cX5_copy 210 = .ok (.bipush 60, 2) := by decide +kernel
theorem dX5_copy_212 : decode cX5_copy 212 = .ok (.iload_n 1, 1) := by decide +kernel
theorem dX5_copy_213 : decode cX5_copy 213 = .ok (.imul, 1) := by decide +kernel
theorem dX5_copy_214 : decode cX5_copy 214 = .ok (.iload_n 2, 1) := by decide +kernel
theorem dX5_copy_215 : decode cX5_copy 215 = .ok (.iadd, 1) := by decide +kernel
theorem dX5_copy_216 : decode cX5_copy 216 = .ok (.iload 9, 2) := by decide +kernel
theorem dX5_copy_218 : decode cX5_copy 218 = .ok (.iadd, 1) := by decide +kernel
theorem dX5_copy_219 : decode cX5_copy 219 = .ok (.iaload, 1) := by decide +kernel
theorem dX5_copy_220 : decode cX5_copy 220 = .ok (.iastore, 1) := by decide +kernel
theorem dX5_copy_221 : decode cX5_copy 221 = .ok (.iinc 8 1, 3) := by decide +kernel
theorem dX5_copy_224 : decode cX5_copy 224 = .ok (.goto (-58), 3) := by decide +kernel
theorem dX5_copy_227 : decode cX5_copy 227 = .ok (.iload 5, 2) := by decide +kernel
theorem dX5_copy_229 : decode cX5_copy 229 = .ok (.ireturn, 1) := by decide +kernel
theorem dX5_begins_0 : decode cX5_begins 0 = .ok (.aload_n 0, 1) := by decide +kernel
theorem dX5_begins_1 : decode cX5_begins 1 = .ok (.bipush 31, 2) := by decide +kernel
theorem dX5_begins_3 : decode cX5_begins 3 = .ok (.aload_n 0, 1) := by decide +kernel
theorem dX5_begins_4 : decode cX5_begins 4 = .ok (.getfield 171, 3) := by decide +kernel
theorem dX5_begins_7 : decode cX5_begins 7 = .ok (.imul, 1) := by decide +kernel
theorem dX5_begins_8 : decode cX5_begins 8 = .ok (.iload_n 1, 1) := by decide +kernel
theorem dX5_begins_9 : decode cX5_begins 9 = .ok (.iadd, 1) := by decide +kernel
theorem dX5_begins_10 : decode cX5_begins 10 = .ok (.putfield 171, 3) := by decide +kernel
theorem dX5_begins_13 : decode cX5_begins 13 = .ok (.return_, 1) := by decide +kernel
set_option maxRecDepth 20000 in
theorem ggX5_tell_X5_isPass : GoodIn wsX5_tell wsX5_isPass := goodIn_r _ [7, 8, 14, 15, 16, 17, 18, 19, 20, 21, 22, 23, 24, 25, 26, 27, 28, 29, 30, 31, 32, 33, 34, 35, 36] (by decide +kernel) (by decide +kernel)
set_option maxRecDepth 20000 in
theorem gX5_tell_X5_isPass : GoodIn wsX5_tell (wsV RX5 103 RX5 yX5_isPass wsX5_isPass) := goodIn_app (goodIn_of _ (by decide +kernel)) ggX5_tell_X5_isPass
set_option maxRecDepth 20000 in
theorem ggX5_tell_X5_begins : GoodIn wsX5_tell wsX5_begins := goodIn_r _ [12, 13, 14, 15, 16, 17, 18, 19, 20, 21, 22, 23, 24, 25, 26, 27, 28, 29, 30, 31, 32, 33, 34, 35, 36] (by decide +kernel) (by decide +kernel)
set_option maxRecDepth 20000 in
theorem gX5_tell_X5_begins : GoodIn wsX5_tell (wsV RX5 174 RX5 yX5_begins wsX5_begins) := goodIn_app (goodIn_of _ (by decide +kernel)) ggX5_tell_X5_begins
theorem dX5_tell_0 : decode cX5_tell 0 = .ok (.aload_n 0, 1) := by decide +kernel
theorem dX5_tell_1 : decode cX5_tell 1 = .ok (.iload_n 1, 1) := by decide +kernel
theorem dX5_tell_2 : decode cX5_tell 2 = .ok (.invokevirtual 103, 3) := by decide +kernel
theorem dX5_tell_5 : decode cX5_tell 5 = .ok (.ifCond .ne 5, 3) := by decide +kernel
theorem dX5_tell_8 : decode cX5_tell 8 = .ok (.iconst (-1), 1) := by decide +kernel
theorem dX5_tell_9 : decode cX5_tell 9 = .ok (.ireturn, 1) := by decide +kernel
theorem dX5_tell_10 : decode cX5_tell 10 = .ok (.aload_n 0, 1) := by decide +kernel
theorem dX5_tell_11 : decode cX5_tell 11 = .ok (.getfield 22, 3) := by decide +kernel
theorem dX5_tell_14 : decode cX5_tell 14 = .ok (.iconst 3, 1) := by decide +kernel
theorem dX5_tell_15 : decode cX5_tell 15 = .ok (.iload_n 1, 1) := by decide +kernel
theorem dX5_tell_16 : decode cX5_tell 16 = .ok (.imul, 1) := by decide +kernel
theorem dX5_tell_17 : decode cX5_tell 17 = .ok (.iaload, 1) := by decide +kernel
theorem dX5_tell_18 : decode cX5_tell 18 = .ok (.aload_n 0, 1) := by decide +kernel
theorem dX5_tell_19 : decode cX5_tell 19 = .ok (.getfield 22, 3) := by decide +kernel
theorem dX5_tell_22 : decode cX5_tell 22 = .ok (.iconst 3, 1) := by decide +kernel
theorem dX5_tell_23 : decode cX5_tell 23 = .ok (.iload_n 1, 1) := by decide +kernel
theorem dX5_tell_24 : decode cX5_tell 24 = .ok (.imul, 1) := by decide +kernel
theorem dX5_tell_25 : decode cX5_tell 25 = .ok (.iconst 1, 1) := by decide +kernel
theorem dX5_tell_26 : decode cX5_tell 26 = .ok (.iadd, 1) := by decide +kernel
theorem dX5_tell_27 : decode cX5_tell 27 = .ok (.iaload, 1) := by decide +kernel
theorem dX5_tell_28 : decode cX5_tell 28 = .ok (.iadd, 1) := by decide +kernel
theorem dX5_tell_29 : decode cX5_tell 29 = .ok (.aload_n 0, 1) := by decide +kernel
theorem dX5_tell_30 : decode cX5_tell 30 = .ok (.getfield 22, 3) := by decide +kernel
theorem dX5_tell_33 : decode cX5_tell 33 = .ok (.iconst 3, 1) := by decide +kernel
theorem dX5_tell_34 : decode cX5_tell 34 = .ok (.iload_n 1, 1) := by decide +kernel
theorem dX5_tell_35 : decode cX5_tell 35 = .ok (.imul, 1) := by decide +kernel
theorem dX5_tell_36 : decode cX5_tell 36 = .ok (.iconst 2, 1) := by decide +kernel
theorem dX5_tell_37 : decode cX5_tell 37 = .ok (.iadd, 1) := by decide +kernel
theorem dX5_tell_38 : decode cX5_tell 38 = .ok (.iaload, 1) := by decide +kernel
theorem dX5_tell_39 : decode cX5_tell 39 = .ok (.iadd, 1) := by decide +kernel
theorem dX5_tell_40 : decode cX5_tell 40 = .ok (.istore_n 2, 1) := by decide +kernel
theorem dX5_tell_41 : decode cX5_tell 41 = .ok (.aload_n 0, 1) := by decide +kernel
theorem dX5_tell_42 : decode cX5_tell 42 = .ok (.getfield 19, 3) := by decide +kernel
theorem dX5_tell_45 : decode cX5_tell 45 = .ok (.iload_n 1, 1) := by decide +kernel
theorem dX5_tell_46 : decode cX5_tell 46 = .ok (.iaload, 1) := by decide +kernel
theorem dX5_tell_47 : decode cX5_tell 47 = .ok (.lookupswitch 67 #[(1, 25), (2, 40)], 25) := by decide +kernel
theorem dX5_tell_72 : decode cX5_tell 72 = .ok (.aload_n 0, 1) := by decide +kernel
theorem dX5_tell_73 : decode cX5_tell 73 = .ok (.iconst 2, 1) := by decide +kernel
theorem dX5_tell_74 : decode cX5_tell 74 = .ok (.invokevirtual 174, 3) := by decide +kernel
theorem dX5_tell_77 : decode cX5_tell 77 = .ok (.aload_n 0, 1) := by decide +kernel
theorem dX5_tell_78 : decode cX5_tell 78 = .ok (.iconst 1, 1) := by decide +kernel
theorem dX5_tell_79 : decode cX5_tell 79 = .ok (.invokevirtual 174, 3) := by decide +kernel
theorem dX5_tell_82 : decode cX5_tell 82 = .ok (.iload_n 2, 1) := by decide +kernel
theorem dX5_tell_83 : decode cX5_tell 83 = .ok (.bipush 100, 2) := by decide +kernel
theorem dX5_tell_85 : decode cX5_tell 85 = .ok (.iadd, 1) := by decide +kernel
theorem dX5_tell_86 : decode cX5_tell 86 = .ok (.ireturn, 1) := by decide +kernel
theorem dX5_tell_87 : decode cX5_tell 87 = .ok (.aload_n 0, 1) := by decide +kernel
theorem dX5_tell_88 : decode cX5_tell 88 = .ok (.iconst 3, 1) := by decide +kernel
theorem dX5_tell_89 : decode cX5_tell 89 = .ok (.invokevirtual 174, 3) := by decide +kernel
theorem dX5_tell_92 : decode cX5_tell 92 = .ok (.aload_n 0, 1) := by decide +kernel
theorem dX5_tell_93 : decode cX5_tell 93 = .ok (.iconst 2, 1) := by decide +kernel
theorem dX5_tell_94 : decode cX5_tell 94 = .ok (.invokevirtual 174, 3) := by decide +kernel
theorem dX5_tell_97 : decode cX5_tell 97 = .ok (.aload_n 0, 1) := by decide +kernel
theorem dX5_tell_98 : decode cX5_tell 98 = .ok (.iconst 1, 1) := by decide +kernel
theorem dX5_tell_99 : decode cX5_tell 99 = .ok (.invokevirtual 174, 3) := by decide +kernel
theorem dX5_tell_102 : decode cX5_tell 102 = .ok (.aload_n 0, 1) := by decide +kernel
theorem dX5_tell_103 : decode cX5_tell 103 = .ok (.iconst 1, 1) := by decide +kernel
theorem dX5_tell_104 : decode cX5_tell 104 = .ok (.invokevirtual 174, 3) := by decide +kernel
theorem dX5_tell_107 : decode cX5_tell 107 = .ok (.iconst 2, 1) := by decide +kernel
theorem dX5_tell_108 : decode cX5_tell 108 = .ok (.iload_n 2, 1) := by decide +kernel
theorem dX5_tell_109 : decode cX5_tell 109 = .ok (.imul, 1) := by decide +kernel
theorem dX5_tell_110 : decode cX5_tell 110 = .ok (.bipush 100, 2) := by decide +kernel
theorem dX5_tell_112 : decode cX5_tell 112 = .ok (.iadd, 1) := by decide +kernel
theorem dX5_tell_113 : decode cX5_tell 113 = .ok (.ireturn, 1) := by decide +kernel
theorem dX5_tell_114 : decode cX5_tell 114 = .ok (.aload_n 0, 1) := by decide +kernel
theorem dX5_tell_115 : decode cX5_tell 115 = .ok (.iconst 1, 1) := by decide +kernel
theorem dX5_tell_116 : decode cX5_tell 116 = .ok (.invokevirtual 174, 3) := by decide +kernel
theorem dX5_tell_119 : decode cX5_tell 119 = .ok (.iload_n 2, 1) := by decide +kernel
theorem dX5_tell_120 : decode cX5_tell 120 = .ok (.ireturn, 1) := by decide +kernel
set_option maxRecDepth 20000 in
theorem ggX5_seal_X5_isPass : GoodIn wsX5_seal wsX5_isPass := goodIn_r _ [6, 7, 13, 14, 15, 16, 17, 18, 19, 20, 21, 22, 23, 24, 25, 26, 27, 28, 29, 30, 31, 32, 33, 34, 35] (by decide +kernel) (by decide +kernel)
set_option maxRecDepth 20000 in
theorem gX5_seal_X5_isPass : GoodIn wsX5_seal (wsV RX5 103 RX5 yX5_isPass wsX5_isPass) := goodIn_app (goodIn_of _ (by decide +kernel)) ggX5_seal_X5_isPass
set_option maxRecDepth 20000 in
theorem ggX5_seal_X5_begins : GoodIn wsX5_seal wsX5_begins := goodIn_r _ [11, 12, 13, 14, 15, 16, 17, 18, 19, 20, 21, 22, 23, 24, 25, 26, 27, 28, 29, 30, 31, 32, 33, 34, 35] (by decide +kernel) (by decide +kernel)
set_option maxRecDepth 20000 in
theorem gX5_seal_X5_begins : GoodIn wsX5_seal (wsV RX5 174 RX5 yX5_begins wsX5_begins) := goodIn_app (goodIn_of _ (by decide +kernel)) ggX5_seal_X5_begins
theorem dX5_seal_0 : decode cX5_seal 0 = .ok (.aload_n 0, 1) := by decide +kernel
theorem dX5_seal_1 : decode cX5_seal 1 = .ok (.iload_n 1, 1) := by decide +kernel
theorem dX5_seal_2 : decode cX5_seal 2 = .ok (.invokevirtual 103, 3) := by decide +kernel
theorem dX5_seal_5 : decode cX5_seal 5 = .ok (.ifCond .ne 5, 3) := by decide +kernel
theorem dX5_seal_8 : decode cX5_seal 8 = .ok (.iconst (-1), 1) := by decide +kernel
theorem dX5_seal_9 : decode cX5_seal 9 = .ok (.ireturn, 1) := by decide +kernel
theorem dX5_seal_10 : decode cX5_seal 10 = .ok (.aload_n 0, 1) := by decide +kernel
theorem dX5_seal_11 : decode cX5_seal 11 = .ok (.aload_n 0, 1) := by decide +kernel
theorem dX5_seal_12 : decode cX5_seal 12 = .ok (.getfield 19, 3) := by decide +kernel
theorem dX5_seal_15 : decode cX5_seal 15 = .ok (.iload_n 1, 1) := by decide +kernel
theorem dX5_seal_16 : decode cX5_seal 16 = .ok (.iaload, 1) := by decide +kernel
theorem dX5_seal_17 : decode cX5_seal 17 = .ok (.iconst 2, 1) := by decide +kernel
theorem dX5_seal_18 : decode cX5_seal 18 = .ok (.if_icmp .ne 7, 3) := by decide +kernel
theorem dX5_seal_21 : decode cX5_seal 21 = .ok (.iconst 5, 1) := by decide +kernel
theorem dX5_seal_22 : decode cX5_seal 22 = .ok (.goto 4, 3) := by decide +kernel
theorem dX5_seal_25 : decode cX5_seal 25 = .ok (.iconst 4, 1) := by decide +kernel
theorem dX5_seal_26 : decode cX5_seal 26 = .ok (.invokevirtual 174, 3) := by decide +kernel
theorem dX5_seal_29 : decode cX5_seal 29 = .ok (.aload_n 0, 1) := by decide +kernel
theorem dX5_seal_30 : decode cX5_seal 30 = .ok (.getfield 19, 3) := by decide +kernel
theorem dX5_seal_33 : decode cX5_seal 33 = .ok (.iload_n 1, 1) := by decide +kernel
theorem dX5_seal_34 : decode cX5_seal 34 = .ok (.iaload, 1) := by decide +kernel
theorem dX5_seal_35 : decode cX5_seal 35 = .ok (.iconst 2, 1) := by decide +kernel
theorem dX5_seal_36 : decode cX5_seal 36 = .ok (.if_icmp .ne 8, 3) := by decide +kernel
theorem dX5_seal_39 : decode cX5_seal 39 = .ok (.bipush 70, 2) := by decide +kernel
theorem dX5_seal_41 : decode cX5_seal 41 = .ok (.goto 4, 3) := by decide +kernel
theorem dX5_seal_44 : decode cX5_seal 44 = .ok (.iload_n 1, 1) := by decide +kernel
theorem dX5_seal_45 : decode cX5_seal 45 = .ok (.ireturn, 1) := by decide +kernel
set_option maxRecDepth 20000 in
theorem ggX5_as_X5_isPass : GoodIn wsX5_as wsX5_isPass := goodIn_r _ [7, 8, 16, 17, 18, 19, 20, 21, 22, 23, 24, 25, 26, 27, 28, 29, 30, 31, 32, 33, 34, 35, 36, 37, 38] (by decide +kernel) (by decide +kernel)
set_option maxRecDepth 20000 in
theorem gX5_as_X5_isPass : GoodIn wsX5_as (wsV RX5 103 RX5 yX5_isPass wsX5_isPass) := goodIn_app (goodIn_of _ (by decide +kernel)) ggX5_as_X5_isPass
set_option maxRecDepth 20000 in
theorem ggX5_as_X5_within : GoodIn wsX5_as wsX5_within := goodIn_r _ [11] (by decide +kernel) (by decide +kernel)
set_option maxRecDepth 20000 in
theorem gX5_as_X5_within : GoodIn wsX5_as (va_wsS RX5 53 yX5_within wsX5_within) := goodIn_app (goodIn_of _ (by decide +kernel)) ggX5_as_X5_within
set_option maxRecDepth 20000 in
theorem ggX5_as_X5_fails : GoodIn wsX5_as wsX5_fails := goodIn_r _ [15, 1, 16, 17, 18, 19, 20, 21, 22, 23, 24, 25, 26, 27, 28, 29, 30, 31, 32, 33, 34, 35, 36, 37, 38] (by decide +kernel) (by decide +kernel)
set_option maxRecDepth 20000 in
theorem gX5_as_X5_fails : GoodIn wsX5_as (wsV RX5 74 RX5 yX5_fails wsX5_fails) := goodIn_app (goodIn_of _ (by decide +kernel)) ggX5_as_X5_fails
theorem dX5_as_0 : decode cX5_as 0 = .ok (.aload_n 0, 1) := by decide +kernel
theorem dX5_as_1 : decode cX5_as 1 = .ok (.iconst 0, 1) := by decide +kernel
theorem dX5_as_2 : decode cX5_as 2 = .ok (.putfield 47, 3) := by decide +kernel
theorem dX5_as_5 : decode cX5_as 5 = .ok (.aload_n 0, 1) := by decide +kernel
theorem dX5_as_6 : decode cX5_as 6 = .ok (.iload_n 1, 1) := by decide +kernel
theorem dX5_as_7 : decode cX5_as 7 = .ok (.invokevirtual 103, 3) := by decide +kernel
theorem dX5_as_10 : decode cX5_as 10 = .ok (.ifCond .ne 5, 3) := by decide +kernel
theorem dX5_as_13 : decode cX5_as 13 = .ok (.iconst (-1), 1) := by decide +kernel
theorem dX5_as_14 : decode cX5_as 14 = .ok (.ireturn, 1) := by decide +kernel
theorem dX5_as_15 : decode cX5_as 15 = .ok (.iload_n 2, 1) := by decide +kernel
theorem dX5_as_16 : decode cX5_as 16 = .ok (.iconst 0, 1) := by decide +kernel
theorem dX5_as_17 : decode cX5_as 17 = .ok (.iconst 2, 1) := by decide +kernel
theorem dX5_as_18 : decode cX5_as 18 = .ok (.invokestatic 53, 3) := by decide +kernel
theorem dX5_as_21 : decode cX5_as 21 = .ok (.ifCond .ne 6, 3) := by decide +kernel
theorem dX5_as_24 : decode cX5_as 24 = .ok (.bipush (-2), 2) := by decide +kernel
theorem dX5_as_26 : decode cX5_as 26 = .ok (.ireturn, 1) := by decide +kernel
theorem dX5_as_27 : decode cX5_as 27 = .ok (.aload_n 0, 1) := by decide +kernel
theorem dX5_as_28 : decode cX5_as 28 = .ok (.getfield 19, 3) := by decide +kernel
theorem dX5_as_31 : decode cX5_as 31 = .ok (.iload_n 1, 1) := by decide +kernel
theorem dX5_as_32 : decode cX5_as 32 = .ok (.iaload, 1) := by decide +kernel
theorem dX5_as_33 : decode cX5_as 33 = .ok (.iload_n 2, 1) := by decide +kernel
theorem dX5_as_34 : decode cX5_as 34 = .ok (.if_icmp .lt 7, 3) := by decide +kernel
theorem dX5_as_37 : decode cX5_as 37 = .ok (.iconst 1, 1) := by decide +kernel
theorem dX5_as_38 : decode cX5_as 38 = .ok (.goto 8, 3) := by decide +kernel
theorem dX5_as_41 : decode cX5_as 41 = .ok (.aload_n 0, 1) := by decide +kernel
theorem dX5_as_42 : decode cX5_as 42 = .ok (.iconst 2, 1) := by decide +kernel
theorem dX5_as_43 : decode cX5_as 43 = .ok (.invokevirtual 74, 3) := by decide +kernel
theorem dX5_as_46 : decode cX5_as 46 = .ok (.ireturn, 1) := by decide +kernel
theorem dX5_trace_0 : decode cX5_trace 0 = .ok (.aload_n 0, 1) := by decide +kernel
theorem dX5_trace_1 : decode cX5_trace 1 = .ok (.getfield 171, 3) := by decide +kernel
theorem dX5_trace_4 : decode cX5_trace 4 = .ok (.ireturn, 1) := by decide +kernel
theorem dX5_fault_0 : decode cX5_fault 0 = .ok (.aload_n 0, 1) := by decide +kernel
theorem dX5_fault_1 : decode cX5_fault 1 = .ok (.getfield 47, 3) := by decide +kernel
theorem dX5_fault_4 : decode cX5_fault 4 = .ok (.ireturn, 1) := by decide +kernel
theorem dX5_many_0 : decode cX5_many 0 = .ok (.iload_n 1, 1) := by decide +kernel
theorem dX5_many_1 : decode cX5_many 1 = .ok (.ifCond .ne 10, 3) := by decide +kernel
theorem dX5_many_4 : decode cX5_many 4 = .ok (.aload_n 0, 1) := by decide +kernel
theorem dX5_many_5 : decode cX5_many 5 = .ok (.getfield 57, 3) := by decide +kernel
theorem dX5_many_8 : decode cX5_many 8 = .ok (.goto 29, 3) := by decide +kernel
theorem dX5_many_11 : decode cX5_many 11 = .ok (.iload_n 1, 1) := by decide +kernel
theorem dX5_many_12 : decode cX5_many 12 = .ok (.iconst 1, 1) := by decide +kernel
theorem dX5_many_13 : decode cX5_many 13 = .ok (.if_icmp .ne 10, 3) := by decide +kernel
theorem dX5_many_16 : decode cX5_many 16 = .ok (.aload_n 0, 1) := by decide +kernel
theorem dX5_many_17 : decode cX5_many 17 = .ok (.getfield 84, 3) := by decide +kernel
theorem dX5_many_20 : decode cX5_many 20 = .ok (.goto 17, 3) := by decide +kernel
theorem dX5_many_23 : decode cX5_many 23 = .ok (.iload_n 1, 1) := by decide +kernel
theorem dX5_many_24 : decode cX5_many 24 = .ok (.iconst 2, 1) := by decide +kernel
theorem dX5_many_25 : decode cX5_many 25 = .ok (.if_icmp .ne 10, 3) := by decide +kernel
theorem dX5_many_28 : decode cX5_many 28 = .ok (.aload_n 0, 1) := by decide +kernel
theorem dX5_many_29 : decode cX5_many 29 = .ok (.getfield 90, 3) := by decide +kernel
theorem dX5_many_32 : decode cX5_many 32 = .ok (.goto 5, 3) := by decide +kernel
theorem dX5_many_35 : decode cX5_many 35 = .ok (.bipush (-2), 2) := by decide +kernel
theorem dX5_many_37 : decode cX5_many 37 = .ok (.ireturn, 1) := by decide +kernel
theorem dJ6_bitCount_0f7a4_0 : decode cJ6_bitCount_0f7a4 0 = .ok (.iload_n 0, 1) := by decide +kernel
theorem dJ6_bitCount_0f7a4_1 : decode cJ6_bitCount_0f7a4 1 = .ok (.iload_n 0, 1) := by decide +kernel
theorem dJ6_bitCount_0f7a4_2 : decode cJ6_bitCount_0f7a4 2 = .ok (.iconst 1, 1) := by decide +kernel
theorem dJ6_bitCount_0f7a4_3 : decode cJ6_bitCount_0f7a4 3 = .ok (.iushr, 1) := by decide +kernel
theorem dJ6_bitCount_0f7a4_4 : decode cJ6_bitCount_0f7a4 4 = .ok (.ldc_w 265, 3) := by decide +kernel
theorem dJ6_bitCount_0f7a4_7 : decode cJ6_bitCount_0f7a4 7 = .ok (.iand, 1) := by decide +kernel
theorem dJ6_bitCount_0f7a4_8 : decode cJ6_bitCount_0f7a4 8 = .ok (.isub, 1) := by decide +kernel
theorem dJ6_bitCount_0f7a4_9 : decode cJ6_bitCount_0f7a4 9 = .ok (.istore_n 0, 1) := by decide +kernel
theorem dJ6_bitCount_0f7a4_10 : decode cJ6_bitCount_0f7a4 10 = .ok (.iload_n 0, 1) := by decide +kernel
theorem dJ6_bitCount_0f7a4_11 : decode cJ6_bitCount_0f7a4 11 = .ok (.ldc_w 266, 3) := by decide +kernel
theorem dJ6_bitCount_0f7a4_14 : decode cJ6_bitCount_0f7a4 14 = .ok (.iand, 1) := by decide +kernel
theorem dJ6_bitCount_0f7a4_15 : decode cJ6_bitCount_0f7a4 15 = .ok (.iload_n 0, 1) := by decide +kernel
theorem dJ6_bitCount_0f7a4_16 : decode cJ6_bitCount_0f7a4 16 = .ok (.iconst 2, 1) := by decide +kernel
theorem dJ6_bitCount_0f7a4_17 : decode cJ6_bitCount_0f7a4 17 = .ok (.iushr, 1) := by decide +kernel
theorem dJ6_bitCount_0f7a4_18 : decode cJ6_bitCount_0f7a4 18 = .ok (.ldc_w 266, 3) := by decide +kernel
theorem dJ6_bitCount_0f7a4_21 : decode cJ6_bitCount_0f7a4 21 = .ok (.iand, 1) := by decide +kernel
theorem dJ6_bitCount_0f7a4_22 : decode cJ6_bitCount_0f7a4 22 = .ok (.iadd, 1) := by decide +kernel
theorem dJ6_bitCount_0f7a4_23 : decode cJ6_bitCount_0f7a4 23 = .ok (.istore_n 0, 1) := by decide +kernel
theorem dJ6_bitCount_0f7a4_24 : decode cJ6_bitCount_0f7a4 24 = .ok (.iload_n 0, 1) := by decide +kernel
theorem dJ6_bitCount_0f7a4_25 : decode cJ6_bitCount_0f7a4 25 = .ok (.iload_n 0, 1) := by decide +kernel
theorem dJ6_bitCount_0f7a4_26 : decode cJ6_bitCount_0f7a4 26 = .ok (.iconst 4, 1) := by decide +kernel
theorem dJ6_bitCount_0f7a4_27 : decode cJ6_bitCount_0f7a4 27 = .ok (.iushr, 1) := by decide +kernel
theorem dJ6_bitCount_0f7a4_28 : decode cJ6_bitCount_0f7a4 28 = .ok (.iadd, 1) := by decide +kernel
theorem dJ6_bitCount_0f7a4_29 : decode cJ6_bitCount_0f7a4 29 = .ok (.ldc_w 267, 3) := by decide +kernel
theorem dJ6_bitCount_0f7a4_32 : decode cJ6_bitCount_0f7a4 32 = .ok (.iand, 1) := by decide +kernel
theorem dJ6_bitCount_0f7a4_33 : decode cJ6_bitCount_0f7a4 33 = .ok (.istore_n 0, 1) := by decide +kernel
theorem dJ6_bitCount_0f7a4_34 : decode cJ6_bitCount_0f7a4 34 = .ok (.iload_n 0, 1) := by decide +kernel
theorem dJ6_bitCount_0f7a4_35 : decode cJ6_bitCount_0f7a4 35 = .ok (.iload_n 0, 1) := by decide +kernel
theorem dJ6_bitCount_0f7a4_36 : decode cJ6_bitCount_0f7a4 36 = .ok (.bipush 8, 2) := by decide +kernel
theorem dJ6_bitCount_0f7a4_38 : decode cJ6_bitCount_0f7a4 38 = .ok (.iushr, 1) := by decide +kernel
theorem dJ6_bitCount_0f7a4_39 : decode cJ6_bitCount_0f7a4 39 = .ok (.iadd, 1) := by decide +kernel
theorem dJ6_bitCount_0f7a4_40 : decode cJ6_bitCount_0f7a4 40 = .ok (.istore_n 0, 1) := by decide +kernel
theorem dJ6_bitCount_0f7a4_41 : decode cJ6_bitCount_0f7a4 41 = .ok (.iload_n 0, 1) := by decide +kernel
theorem dJ6_bitCount_0f7a4_42 : decode cJ6_bitCount_0f7a4 42 = .ok (.iload_n 0, 1) := by decide +kernel
theorem dJ6_bitCount_0f7a4_43 : decode cJ6_bitCount_0f7a4 43 = .ok (.bipush 16, 2) := by decide +kernel
theorem dJ6_bitCount_0f7a4_45 : decode cJ6_bitCount_0f7a4 45 = .ok (.iushr, 1) := by decide +kernel
theorem dJ6_bitCount_0f7a4_46 : decode cJ6_bitCount_0f7a4 46 = .ok (.iadd, 1) := by decide +kernel
theorem dJ6_bitCount_0f7a4_47 : decode cJ6_bitCount_0f7a4 47 = .ok (.istore_n 0, 1) := by decide +kernel
theorem dJ6_bitCount_0f7a4_48 : decode cJ6_bitCount_0f7a4 48 = .ok (.iload_n 0, 1) := by decide +kernel
theorem dJ6_bitCount_0f7a4_49 : decode cJ6_bitCount_0f7a4 49 = .ok (.bipush 63, 2) := by decide +kernel
theorem dJ6_bitCount_0f7a4_51 : decode cJ6_bitCount_0f7a4 51 = .ok (.iand, 1) := by decide +kernel
theorem dJ6_bitCount_0f7a4_52 : decode cJ6_bitCount_0f7a4 52 = .ok (.ireturn, 1) := by decide +kernel
theorem dJ9_abs_0f7a4_0 : decode cJ9_abs_0f7a4 0 = .ok (.iload_n 0, 1) := by decide +kernel
theorem dJ9_abs_0f7a4_1 : decode cJ9_abs_0f7a4 1 = .ok (.ifCond .ge 8, 3) := by decide +kernel
theorem dJ9_abs_0f7a4_4 : decode cJ9_abs_0f7a4 4 = .ok (.iload_n 0, 1) := by decide +kernel
theorem dJ9_abs_0f7a4_5 : decode cJ9_abs_0f7a4 5 = .ok (.ineg, 1) := by decide +kernel
theorem dJ9_abs_0f7a4_6 : decode cJ9_abs_0f7a4 6 = .ok (.goto 4, 3) := by decide +kernel
theorem dJ9_abs_0f7a4_9 : decode cJ9_abs_0f7a4 9 = .ok (.iload_n 0, 1) := by decide +kernel
theorem dJ9_abs_0f7a4_10 : decode cJ9_abs_0f7a4 10 = .ok (.ireturn, 1) := by decide +kernel
theorem dJ9_max_7cf53_0 : decode cJ9_max_7cf53 0 = .ok (.iload_n 0, 1) := by decide +kernel
theorem dJ9_max_7cf53_1 : decode cJ9_max_7cf53 1 = .ok (.iload_n 1, 1) := by decide +kernel
theorem dJ9_max_7cf53_2 : decode cJ9_max_7cf53 2 = .ok (.if_icmp .lt 7, 3) := by decide +kernel
theorem dJ9_max_7cf53_5 : decode cJ9_max_7cf53 5 = .ok (.iload_n 0, 1) := by decide +kernel
theorem dJ9_max_7cf53_6 : decode cJ9_max_7cf53 6 = .ok (.goto 4, 3) := by decide +kernel
theorem dJ9_max_7cf53_9 : decode cJ9_max_7cf53 9 = .ok (.iload_n 1, 1) := by decide +kernel
theorem dJ9_max_7cf53_10 : decode cJ9_max_7cf53 10 = .ok (.ireturn, 1) := by decide +kernel
theorem dJ9_min_7cf53_0 : decode cJ9_min_7cf53 0 = .ok (.iload_n 0, 1) := by decide +kernel
theorem dJ9_min_7cf53_1 : decode cJ9_min_7cf53 1 = .ok (.iload_n 1, 1) := by decide +kernel
theorem dJ9_min_7cf53_2 : decode cJ9_min_7cf53 2 = .ok (.if_icmp .gt 7, 3) := by decide +kernel
theorem dJ9_min_7cf53_5 : decode cJ9_min_7cf53 5 = .ok (.iload_n 0, 1) := by decide +kernel
theorem dJ9_min_7cf53_6 : decode cJ9_min_7cf53 6 = .ok (.goto 4, 3) := by decide +kernel
theorem dJ9_min_7cf53_9 : decode cJ9_min_7cf53 9 = .ok (.iload_n 1, 1) := by decide +kernel
theorem dJ9_min_7cf53_10 : decode cJ9_min_7cf53 10 = .ok (.ireturn, 1) := by decide +kernel
theorem dJ7_fill_53178_0 : decode cJ7_fill_53178 0 = .ok (.iconst 0, 1) := by decide +kernel
theorem dJ7_fill_53178_1 : decode cJ7_fill_53178 1 = .ok (.istore_n 2, 1) := by decide +kernel
theorem dJ7_fill_53178_2 : decode cJ7_fill_53178 2 = .ok (.aload_n 0, 1) := by decide +kernel
theorem dJ7_fill_53178_3 : decode cJ7_fill_53178 3 = .ok (.arraylength, 1) := by decide +kernel
theorem dJ7_fill_53178_4 : decode cJ7_fill_53178 4 = .ok (.istore_n 3, 1) := by decide +kernel
theorem dJ7_fill_53178_5 : decode cJ7_fill_53178 5 = .ok (.iload_n 2, 1) := by decide +kernel
theorem dJ7_fill_53178_6 : decode cJ7_fill_53178 6 = .ok (.iload_n 3, 1) := by decide +kernel
theorem dJ7_fill_53178_7 : decode cJ7_fill_53178 7 = .ok (.if_icmp .ge 13, 3) := by decide +kernel
theorem dJ7_fill_53178_10 : decode cJ7_fill_53178 10 = .ok (.aload_n 0, 1) := by decide +kernel
theorem dJ7_fill_53178_11 : decode cJ7_fill_53178 11 = .ok (.iload_n 2, 1) := by decide +kernel
theorem dJ7_fill_53178_12 : decode cJ7_fill_53178 12 = .ok (.iload_n 1, 1) := by decide +kernel
theorem dJ7_fill_53178_13 : decode cJ7_fill_53178 13 = .ok (.iastore, 1) := by decide +kernel
theorem dJ7_fill_53178_14 : decode cJ7_fill_53178 14 = .ok (.iinc 2 1, 3) := by decide +kernel
theorem dJ7_fill_53178_17 : decode cJ7_fill_53178 17 = .ok (.goto (-12), 3) := by decide +kernel
theorem dJ7_fill_53178_20 : decode cJ7_fill_53178 20 = .ok (.return_, 1) := by decide +kernel
set_option maxRecDepth 20000 in
theorem ggL_law_X4_init : GoodIn wsL_law wsX4_init := goodIn_r _ [8, 9, 10, 11, 12, 13, 14, 15, 16, 17, 18, 19, 20, 21, 22, 23, 24, 25, 26, 27, 28, 29, 30, 31, 32, 33, 34, 35, 36, 37, 38, 39, 40, 41, 42, 43, 44, 45, 46, 47, 48, 49, 50, 51, 52, 53, 54, 55, 56, 57, 58, 59, 757, 758, 759, 760, 761, 762, 786, 787, 788, 789, 790, 791, 792, 793, 794, 795, 796, 797, 798, 799, 800, 801] (by decide +kernel) (by decide +kernel)
set_option maxRecDepth 20000 in
theorem gL_law_X4_init : GoodIn wsL_law (wsX4_init) := ggL_law_X4_init
set_option maxRecDepth 20000 in
theorem ggL_law_X5_init : GoodIn wsL_law wsX5_init := goodIn_r _ [62, 63, 10, 11, 33, 64, 65, 66, 67, 68, 69, 70, 71, 72, 73, 74, 51, 75, 763, 764, 765, 766, 767, 768, 769, 770, 771, 772, 773, 774, 775, 776, 777, 778, 779, 780, 781, 782, 783, 784, 785] (by decide +kernel) (by decide +kernel)
set_option maxRecDepth 20000 in
theorem gL_law_X5_init : GoodIn wsL_law (wsX5_init) := ggL_law_X5_init
set_option maxRecDepth 20000 in
theorem ggL_law_X4_coast : GoodIn wsL_law wsX4_coast := goodIn_r _ [79, 27, 13, 17, 25, 80, 81, 2, 82, 83, 84, 85, 86, 87, 88, 89, 90, 91, 92, 93, 94, 95, 96, 97, 98, 99, 100, 29, 101, 58, 102, 103, 104, 105, 106, 107, 108, 109, 59, 110, 111, 16, 112, 113, 114, 115, 116, 57, 117, 118, 119, 120, 121, 122, 123, 124, 125, 126, 127, 128, 129, 130, 131, 132, 133, 134, 37, 38, 34, 135, 136, 137, 138, 139, 140, 141, 35, 142, 143, 144, 145, 146, 147, 148, 24, 149, 53, 150, 151, 152, 153, 154, 155, 156, 157, 757, 758, 759, 760, 761, 762, 799, 800, 801, 786, 787, 788, 789, 790, 794, 795, 796, 797, 798] (by decide +kernel) (by decide +kernel)
set_option maxRecDepth 20000 in
theorem gL_law_X4_coast : GoodIn wsL_law (wsV RL 13 RX4 yX4_coast wsX4_coast) := goodIn_app (goodIn_of _ (by decide +kernel)) ggL_law_X4_coast
set_option maxRecDepth 20000 in
theorem ggL_law_X5_coast : GoodIn wsL_law wsX5_coast := goodIn_r _ [161, 162, 163, 164, 165, 166, 167, 67, 69, 68, 70, 168, 169, 170, 5, 171, 172, 173, 174, 175, 176, 177, 178, 179, 180, 181, 64, 65, 182, 183, 184, 185, 186, 187, 188, 189, 190, 191, 192, 193, 66, 194, 195, 196, 197, 198, 199, 200, 201, 763, 764, 765, 766, 767, 768, 769, 770, 771, 772, 773, 774, 775, 776, 777, 778, 779, 780, 781, 782, 783, 784, 785] (by decide +kernel) (by decide +kernel)
set_option maxRecDepth 20000 in
theorem gL_law_X5_coast : GoodIn wsL_law (wsV RL 17 RX5 yX5_coast wsX5_coast) := goodIn_app (goodIn_of _ (by decide +kernel)) ggL_law_X5_coast
set_option maxRecDepth 20000 in
theorem ggL_law_X4_ofPass : GoodIn wsL_law wsX4_ofPass := goodIn_r _ [205, 17, 206, 143, 144, 16, 145, 37, 83, 84, 2, 85, 207, 208, 209, 210, 34, 142, 211, 212, 213, 214, 35, 757, 758, 759, 760, 761, 762, 786, 787, 788, 789, 790] (by decide +kernel) (by decide +kernel)
set_option maxRecDepth 20000 in
theorem gL_law_X4_ofPass : GoodIn wsL_law (wsV RL 18 RX4 yX4_ofPass wsX4_ofPass) := goodIn_app (goodIn_of _ (by decide +kernel)) ggL_law_X4_ofPass
set_option maxRecDepth 20000 in
theorem ggL_law_X5_ofPass : GoodIn wsL_law wsX5_ofPass := goodIn_r _ [218, 67, 68, 219, 220, 221, 5, 222, 167, 172, 173, 174, 763, 764, 765, 766, 767, 768, 769, 770, 771, 772, 773, 774, 775, 776, 777, 778, 779, 780, 781, 782, 783, 784, 785] (by decide +kernel) (by decide +kernel)
set_option maxRecDepth 20000 in
theorem gL_law_X5_ofPass : GoodIn wsL_law (wsV RL 22 RX5 yX5_ofPass wsX5_ofPass) := goodIn_app (goodIn_of _ (by decide +kernel)) ggL_law_X5_ofPass
set_option maxRecDepth 20000 in
theorem ggL_law_X4_trim : GoodIn wsL_law wsX4_trim := goodIn_r _ [226, 17, 206, 143, 144, 16, 145, 37, 227, 228, 2, 229, 83, 84, 85, 211, 212, 213, 214, 35, 142, 230, 139, 140, 141, 757, 758, 759, 760, 761, 762, 786, 787, 788, 789, 790] (by decide +kernel) (by decide +kernel)
set_option maxRecDepth 20000 in
theorem gL_law_X4_trim : GoodIn wsL_law (wsV RL 23 RX4 yX4_trim wsX4_trim) := goodIn_app (goodIn_of _ (by decide +kernel)) ggL_law_X4_trim
set_option maxRecDepth 20000 in
theorem ggL_law_X5_trim : GoodIn wsL_law wsX5_trim := goodIn_r _ [234, 68, 219, 220, 221, 5, 222, 167, 235, 236, 237, 172, 173, 174, 238, 239, 240, 763, 764, 765, 766, 767, 768, 769, 770, 771, 772, 773, 774, 775, 776, 777, 778, 779, 780, 781, 782, 783, 784, 785] (by decide +kernel) (by decide +kernel)
set_option maxRecDepth 20000 in
theorem gL_law_X5_trim : GoodIn wsL_law (wsV RL 27 RX5 yX5_trim wsX5_trim) := goodIn_app (goodIn_of _ (by decide +kernel)) ggL_law_X5_trim
set_option maxRecDepth 20000 in
theorem ggL_law_X4_slack : GoodIn wsL_law wsX4_slack := goodIn_r _ [244, 17, 83, 84, 2, 85, 245, 246, 247, 16, 248, 37, 249, 250, 251, 252, 38, 253, 254, 255, 256, 757, 758, 759, 760, 761, 762, 786, 787, 788, 789, 790] (by decide +kernel) (by decide +kernel)
set_option maxRecDepth 20000 in
theorem gL_law_X4_slack : GoodIn wsL_law (wsV RL 28 RX4 yX4_slack wsX4_slack) := goodIn_app (goodIn_of _ (by decide +kernel)) ggL_law_X4_slack
set_option maxRecDepth 20000 in
theorem ggL_law_X5_slack : GoodIn wsL_law wsX5_slack := goodIn_r _ [260, 167, 165, 238, 239, 5, 240, 172, 173, 174, 763, 764, 765, 766, 767, 768, 769, 770, 771, 772, 773, 774, 775, 776, 777, 778, 779, 780, 781, 782, 783, 784, 785] (by decide +kernel) (by decide +kernel)
set_option maxRecDepth 20000 in
theorem gL_law_X5_slack : GoodIn wsL_law (wsV RL 32 RX5 yX5_slack wsX5_slack) := goodIn_app (goodIn_of _ (by decide +kernel)) ggL_law_X5_slack
set_option maxRecDepth 20000 in
theorem ggL_law_X4_worn : GoodIn wsL_law wsX4_worn := goodIn_r _ [264, 17, 206, 143, 144, 16, 145, 37, 227, 228, 2, 229, 83, 84, 85, 265, 266, 267, 268, 269, 270, 271, 272, 273, 133, 274, 275, 212, 213, 214, 35, 142, 276, 208, 209, 210, 34, 277, 278, 279, 757, 758, 759, 760, 761, 762, 786, 787, 788, 789, 790] (by decide +kernel) (by decide +kernel)
set_option maxRecDepth 20000 in
theorem gL_law_X4_worn : GoodIn wsL_law (wsV RL 33 RX4 yX4_worn wsX4_worn) := goodIn_app (goodIn_of _ (by decide +kernel)) ggL_law_X4_worn
set_option maxRecDepth 20000 in
theorem ggL_law_X5_worn : GoodIn wsL_law wsX5_worn := goodIn_r _ [283, 219, 220, 221, 5, 222, 167, 235, 236, 237, 172, 173, 174, 238, 239, 240, 284, 285, 286, 287, 67, 68, 763, 764, 765, 766, 767, 768, 769, 770, 771, 772, 773, 774, 775, 776, 777, 778, 779, 780, 781, 782, 783, 784, 785] (by decide +kernel) (by decide +kernel)
set_option maxRecDepth 20000 in
theorem gL_law_X5_worn : GoodIn wsL_law (wsV RL 36 RX5 yX5_worn wsX5_worn) := goodIn_app (goodIn_of _ (by decide +kernel)) ggL_law_X5_worn
set_option maxRecDepth 20000 in
theorem ggL_law_X4_off : GoodIn wsL_law wsX4_off := goodIn_r _ [291, 17, 206, 143, 144, 16, 145, 37, 265, 266, 2, 267, 83, 84, 85, 292, 293, 294, 295, 272, 273, 133, 274, 296, 297, 298, 276, 208, 209, 210, 34, 142, 277, 278, 279, 275, 212, 213, 214, 35, 757, 758, 759, 760, 761, 762, 786, 787, 788, 789, 790] (by decide +kernel) (by decide +kernel)
set_option maxRecDepth 20000 in
theorem gL_law_X4_off : GoodIn wsL_law (wsV RL 37 RX4 yX4_off wsX4_off) := goodIn_app (goodIn_of _ (by decide +kernel)) ggL_law_X4_off
set_option maxRecDepth 20000 in
theorem ggL_law_X5_off : GoodIn wsL_law wsX5_off := goodIn_r _ [302, 219, 220, 221, 5, 222, 167, 238, 239, 240, 172, 173, 174, 303, 304, 305, 306, 68, 284, 285, 286, 287, 67, 307, 308, 309, 763, 764, 765, 766, 767, 768, 769, 770, 771, 772, 773, 774, 775, 776, 777, 778, 779, 780, 781, 782, 783, 784, 785] (by decide +kernel) (by decide +kernel)
set_option maxRecDepth 20000 in
theorem gL_law_X5_off : GoodIn wsL_law (wsV RL 40 RX5 yX5_off wsX5_off) := goodIn_app (goodIn_of _ (by decide +kernel)) ggL_law_X5_off
set_option maxRecDepth 20000 in
theorem ggL_law_X4_fits : GoodIn wsL_law wsX4_fits := goodIn_r _ [313, 17, 206, 143, 144, 16, 145, 37, 265, 266, 2, 267, 83, 84, 85, 314, 315, 316, 317, 38, 318, 293, 294, 295, 272, 273, 133, 274, 296, 297, 298, 276, 208, 209, 210, 34, 142, 277, 278, 279, 275, 212, 213, 214, 35, 319, 320, 757, 758, 759, 760, 761, 762, 786, 787, 788, 789, 790] (by decide +kernel) (by decide +kernel)
set_option maxRecDepth 20000 in
theorem gL_law_X4_fits : GoodIn wsL_law (wsV RL 41 RX4 yX4_fits wsX4_fits) := goodIn_app (goodIn_of _ (by decide +kernel)) ggL_law_X4_fits
set_option maxRecDepth 20000 in
theorem ggL_law_X5_fits : GoodIn wsL_law wsX5_fits := goodIn_r _ [324, 219, 220, 221, 5, 222, 167, 238, 239, 240, 172, 173, 174, 325, 326, 327, 328, 329, 330, 331, 332, 165, 303, 304, 305, 306, 68, 284, 285, 286, 287, 67, 307, 308, 309, 763, 764, 765, 766, 767, 768, 769, 770, 771, 772, 773, 774, 775, 776, 777, 778, 779, 780, 781, 782, 783, 784, 785] (by decide +kernel) (by decide +kernel)
set_option maxRecDepth 20000 in
theorem gL_law_X5_fits : GoodIn wsL_law (wsV RL 44 RX5 yX5_fits wsX5_fits) := goodIn_app (goodIn_of _ (by decide +kernel)) ggL_law_X5_fits
set_option maxRecDepth 20000 in
theorem ggL_law_X4_match : GoodIn wsL_law wsX4_match := goodIn_r _ [336, 17, 206, 143, 144, 16, 145, 37, 265, 266, 2, 267, 83, 84, 85, 337, 338, 339, 340, 38, 318, 293, 294, 295, 272, 273, 133, 274, 296, 297, 298, 276, 208, 209, 210, 34, 142, 277, 278, 279, 275, 212, 213, 214, 35, 757, 758, 759, 760, 761, 762, 786, 787, 788, 789, 790] (by decide +kernel) (by decide +kernel)
set_option maxRecDepth 20000 in
theorem gL_law_X4_match : GoodIn wsL_law (wsV RL 45 RX4 yX4_match wsX4_match) := goodIn_app (goodIn_of _ (by decide +kernel)) ggL_law_X4_match
set_option maxRecDepth 20000 in
theorem ggL_law_X5_match : GoodIn wsL_law wsX5_match := goodIn_r _ [344, 167, 219, 220, 221, 5, 222, 238, 239, 240, 172, 173, 174, 329, 330, 331, 332, 165, 303, 304, 305, 306, 68, 284, 285, 286, 287, 67, 307, 308, 309, 763, 764, 765, 766, 767, 768, 769, 770, 771, 772, 773, 774, 775, 776, 777, 778, 779, 780, 781, 782, 783, 784, 785] (by decide +kernel) (by decide +kernel)
set_option maxRecDepth 20000 in
theorem gL_law_X5_match : GoodIn wsL_law (wsV RL 48 RX5 yX5_match wsX5_match) := goodIn_app (goodIn_of _ (by decide +kernel)) ggL_law_X5_match
set_option maxRecDepth 20000 in
theorem ggL_law_X4_last : GoodIn wsL_law wsX4_last := goodIn_r _ [348, 17, 206, 143, 144, 16, 145, 37, 349, 350, 351, 352, 353, 354, 355, 356, 38, 318, 293, 294, 295, 272, 273, 133, 274, 296, 297, 298, 276, 208, 209, 210, 34, 142, 277, 278, 279, 275, 212, 213, 214, 35, 757, 758, 759, 760, 761, 762, 786, 787, 788, 789, 790] (by decide +kernel) (by decide +kernel)
set_option maxRecDepth 20000 in
theorem gL_law_X4_last : GoodIn wsL_law (wsV RL 49 RX4 yX4_last wsX4_last) := goodIn_app (goodIn_of _ (by decide +kernel)) ggL_law_X4_last
set_option maxRecDepth 20000 in
theorem ggL_law_X5_last : GoodIn wsL_law wsX5_last := goodIn_r _ [360, 219, 220, 221, 5, 222, 167, 329, 330, 331, 332, 165, 303, 304, 305, 306, 68, 284, 285, 286, 287, 67, 307, 308, 309, 763, 764, 765, 766, 767, 768, 769, 770, 771, 772, 773, 774, 775, 776, 777, 778, 779, 780, 781, 782, 783, 784, 785] (by decide +kernel) (by decide +kernel)
set_option maxRecDepth 20000 in
theorem gL_law_X5_last : GoodIn wsL_law (wsV RL 52 RX5 yX5_last wsX5_last) := goodIn_app (goodIn_of _ (by decide +kernel)) ggL_law_X5_last
set_option maxRecDepth 20000 in
theorem ggL_law_X4_alike : GoodIn wsL_law wsX4_alike := goodIn_r _ [364, 17, 206, 143, 144, 16, 145, 37, 365, 366, 367, 368, 369, 370, 371, 372, 296, 297, 133, 298, 38, 275, 212, 213, 214, 35, 142, 319, 2, 320, 757, 758, 759, 760, 761, 762, 786, 787, 788, 789, 790] (by decide +kernel) (by decide +kernel)
set_option maxRecDepth 20000 in
theorem gL_law_X4_alike : GoodIn wsL_law (wsV RL 53 RX4 yX4_alike wsX4_alike) := goodIn_app (goodIn_of _ (by decide +kernel)) ggL_law_X4_alike
set_option maxRecDepth 20000 in
theorem ggL_law_X5_alike : GoodIn wsL_law wsX5_alike := goodIn_r _ [376, 219, 220, 221, 5, 222, 167, 377, 378, 379, 380, 68, 165, 307, 308, 309, 763, 764, 765, 766, 767, 768, 769, 770, 771, 772, 773, 774, 775, 776, 777, 778, 779, 780, 781, 782, 783, 784, 785] (by decide +kernel) (by decide +kernel)
set_option maxRecDepth 20000 in
theorem gL_law_X5_alike : GoodIn wsL_law (wsV RL 56 RX5 yX5_alike wsX5_alike) := goodIn_app (goodIn_of _ (by decide +kernel)) ggL_law_X5_alike
set_option maxRecDepth 20000 in
theorem ggL_law_X4_most : GoodIn wsL_law wsX4_most := goodIn_r _ [384, 17, 245, 246, 247, 16, 248, 37, 385, 386, 387, 388, 36, 389, 366, 367, 368, 369, 370, 371, 372, 296, 297, 133, 298, 38, 275, 212, 213, 214, 35, 142, 143, 144, 145, 319, 2, 320, 390, 391, 392, 393, 394, 395, 396, 397, 398, 399, 400, 401, 402, 403, 404, 757, 758, 759, 760, 761, 762, 786, 787, 788, 789, 790] (by decide +kernel) (by decide +kernel)
set_option maxRecDepth 20000 in
theorem gL_law_X4_most : GoodIn wsL_law (wsV RL 57 RX4 yX4_most wsX4_most) := goodIn_app (goodIn_of _ (by decide +kernel)) ggL_law_X4_most
set_option maxRecDepth 20000 in
theorem ggL_law_X5_most : GoodIn wsL_law wsX5_most := goodIn_r _ [408, 167, 409, 410, 5, 411, 412, 413, 414, 415, 377, 378, 379, 380, 68, 165, 307, 308, 309, 763, 764, 765, 766, 767, 768, 769, 770, 771, 772, 773, 774, 775, 776, 777, 778, 779, 780, 781, 782, 783, 784, 785] (by decide +kernel) (by decide +kernel)
set_option maxRecDepth 20000 in
theorem gL_law_X5_most : GoodIn wsL_law (wsV RL 61 RX5 yX5_most wsX5_most) := goodIn_app (goodIn_of _ (by decide +kernel)) ggL_law_X5_most
set_option maxRecDepth 20000 in
theorem ggL_law_X4_letGo : GoodIn wsL_law wsX4_letGo := goodIn_r _ [419, 17, 245, 246, 247, 16, 248, 37, 420, 421, 422, 423, 390, 391, 392, 393, 265, 266, 2, 267, 83, 84, 85, 424, 425, 426, 427, 36, 428, 315, 316, 317, 38, 318, 293, 294, 295, 272, 273, 133, 274, 296, 297, 298, 276, 208, 209, 210, 34, 142, 143, 144, 145, 277, 278, 279, 275, 212, 213, 214, 35, 319, 320, 429, 430, 431, 432, 757, 758, 759, 760, 761, 762, 786, 787, 788, 789, 790] (by decide +kernel) (by decide +kernel)
set_option maxRecDepth 20000 in
theorem gL_law_X4_letGo : GoodIn wsL_law (wsV RL 62 RX4 yX4_letGo wsX4_letGo) := goodIn_app (goodIn_of _ (by decide +kernel)) ggL_law_X4_letGo
set_option maxRecDepth 20000 in
theorem ggL_law_X5_letGo : GoodIn wsL_law wsX5_letGo := goodIn_r _ [436, 167, 437, 438, 439, 5, 440, 238, 239, 240, 172, 173, 174, 441, 442, 443, 444, 325, 326, 327, 328, 329, 330, 331, 332, 165, 303, 304, 305, 306, 68, 284, 285, 286, 287, 67, 307, 308, 309, 763, 764, 765, 766, 767, 768, 769, 770, 771, 772, 773, 774, 775, 776, 777, 778, 779, 780, 781, 782, 783, 784, 785] (by decide +kernel) (by decide +kernel)
set_option maxRecDepth 20000 in
theorem gL_law_X5_letGo : GoodIn wsL_law (wsV RL 65 RX5 yX5_letGo wsX5_letGo) := goodIn_app (goodIn_of _ (by decide +kernel)) ggL_law_X5_letGo
set_option maxRecDepth 20000 in
theorem ggL_law_X4_fewest : GoodIn wsL_law wsX4_fewest := goodIn_r _ [448, 17, 265, 266, 2, 267, 83, 84, 85, 245, 246, 247, 16, 248, 37, 424, 425, 426, 427, 36, 428, 315, 316, 317, 38, 318, 293, 294, 295, 272, 273, 133, 274, 296, 297, 298, 276, 208, 209, 210, 34, 142, 143, 144, 145, 277, 278, 279, 275, 212, 213, 214, 35, 319, 320, 449, 450, 451, 452, 390, 391, 392, 393, 394, 395, 396, 397, 398, 399, 400, 453, 430, 431, 432, 757, 758, 759, 760, 761, 762, 786, 787, 788, 789, 790] (by decide +kernel) (by decide +kernel)
set_option maxRecDepth 20000 in
theorem gL_law_X4_fewest : GoodIn wsL_law (wsV RL 66 RX4 yX4_fewest wsX4_fewest) := goodIn_app (goodIn_of _ (by decide +kernel)) ggL_law_X4_fewest
set_option maxRecDepth 20000 in
theorem ggL_law_X5_fewest : GoodIn wsL_law wsX5_fewest := goodIn_r _ [457, 167, 238, 239, 5, 240, 172, 173, 174, 409, 410, 411, 441, 442, 443, 444, 325, 326, 327, 328, 329, 330, 331, 332, 165, 303, 304, 305, 306, 68, 284, 285, 286, 287, 67, 307, 308, 309, 763, 764, 765, 766, 767, 768, 769, 770, 771, 772, 773, 774, 775, 776, 777, 778, 779, 780, 781, 782, 783, 784, 785] (by decide +kernel) (by decide +kernel)
set_option maxRecDepth 20000 in
theorem gL_law_X5_fewest : GoodIn wsL_law (wsV RL 69 RX5 yX5_fewest wsX5_fewest) := goodIn_app (goodIn_of _ (by decide +kernel)) ggL_law_X5_fewest
set_option maxRecDepth 20000 in
theorem ggL_law_X4_voyages : GoodIn wsL_law wsX4_voyages := goodIn_r _ [461, 27, 13, 17, 21, 80, 81, 2, 82, 83, 84, 85, 86, 87, 88, 462, 463, 464, 92, 93, 94, 95, 96, 97, 98, 99, 100, 29, 101, 58, 102, 103, 104, 105, 106, 107, 108, 109, 59, 245, 246, 247, 16, 248, 37, 420, 421, 422, 423, 390, 391, 392, 393, 465, 466, 467, 20, 468, 469, 132, 133, 134, 44, 42, 43, 470, 114, 115, 116, 57, 117, 118, 119, 120, 471, 472, 473, 474, 475, 143, 144, 145, 266, 267, 476, 477, 478, 479, 480, 481, 482, 483, 484, 485, 486, 487, 488, 315, 316, 317, 38, 318, 293, 294, 295, 272, 273, 274, 296, 297, 298, 276, 208, 209, 210, 34, 142, 277, 278, 279, 275, 212, 213, 214, 35, 319, 320, 489, 490, 491, 492, 493, 395, 396, 397, 398, 399, 400, 494, 495, 496, 497, 498, 499, 500, 501, 502, 354, 355, 356, 503, 504, 505, 506, 206, 507, 508, 509, 510, 757, 758, 759, 760, 761, 762, 799, 800, 801, 786, 787, 788, 789, 790, 791, 792, 793] (by decide +kernel) (by decide +kernel)
set_option maxRecDepth 20000 in
theorem gL_law_X4_voyages : GoodIn wsL_law (wsV RL 70 RX4 yX4_voyages wsX4_voyages) := goodIn_app (goodIn_of _ (by decide +kernel)) ggL_law_X4_voyages
set_option maxRecDepth 20000 in
theorem ggL_law_X5_voyages : GoodIn wsL_law wsX5_voyages := goodIn_r _ [514, 162, 167, 66, 169, 170, 5, 171, 172, 173, 174, 175, 176, 177, 178, 179, 180, 181, 64, 65, 182, 183, 184, 185, 437, 438, 439, 440, 219, 220, 221, 222, 238, 239, 240, 515, 516, 517, 518, 519, 520, 521, 71, 325, 326, 327, 328, 329, 330, 331, 332, 165, 303, 304, 305, 306, 68, 284, 285, 286, 287, 67, 307, 308, 309, 522, 523, 524, 525, 763, 764, 765, 766, 767, 768, 769, 770, 771, 772, 773, 774, 775, 776, 777, 778, 779, 780, 781, 782, 783, 784, 785] (by decide +kernel) (by decide +kernel)
set_option maxRecDepth 20000 in
theorem gL_law_X5_voyages : GoodIn wsL_law (wsV RL 74 RX5 yX5_voyages wsX5_voyages) := goodIn_app (goodIn_of _ (by decide +kernel)) ggL_law_X5_voyages
set_option maxRecDepth 20000 in
theorem ggL_law_X4_reading : GoodIn wsL_law wsX4_reading := goodIn_r _ [529, 17, 25, 206, 143, 144, 16, 145, 37, 265, 266, 2, 267, 83, 84, 85, 146, 147, 148, 24, 149, 53, 530, 531, 532, 533, 48, 49, 50, 52, 757, 758, 759, 760, 761, 762, 786, 787, 788, 789, 790, 794, 795, 796, 797, 798] (by decide +kernel) (by decide +kernel)
set_option maxRecDepth 20000 in
theorem gL_law_X4_reading : GoodIn wsL_law (wsV RL 75 RX4 yX4_reading wsX4_reading) := goodIn_app (goodIn_of _ (by decide +kernel)) ggL_law_X4_reading
set_option maxRecDepth 20000 in
theorem ggL_law_X5_reading : GoodIn wsL_law wsX5_reading := goodIn_r _ [537, 168, 72, 73, 74, 75, 219, 220, 221, 5, 222, 167, 238, 239, 240, 172, 173, 174, 763, 764, 765, 766, 767, 768, 769, 770, 771, 772, 773, 774, 775, 776, 777, 778, 779, 780, 781, 782, 783, 784, 785] (by decide +kernel) (by decide +kernel)
set_option maxRecDepth 20000 in
theorem gL_law_X5_reading : GoodIn wsL_law (wsV RL 79 RX5 yX5_reading wsX5_reading) := goodIn_app (goodIn_of _ (by decide +kernel)) ggL_law_X5_reading
set_option maxRecDepth 20000 in
theorem ggL_law_X4_back : GoodIn wsL_law wsX4_back := goodIn_r _ [541, 25, 146, 147, 148, 24, 149, 53, 83, 84, 2, 85, 150, 151, 152, 153, 757, 758, 759, 760, 761, 762, 794, 795, 796, 797, 798] (by decide +kernel) (by decide +kernel)
set_option maxRecDepth 20000 in
theorem gL_law_X4_back : GoodIn wsL_law (wsV RL 80 RX4 yX4_back wsX4_back) := goodIn_app (goodIn_of _ (by decide +kernel)) ggL_law_X4_back
set_option maxRecDepth 20000 in
theorem ggL_law_X5_back : GoodIn wsL_law wsX5_back := goodIn_r _ [545, 168, 172, 173, 5, 174, 763, 764, 765, 766, 767, 768, 769, 770, 771, 772, 773, 774, 775, 776, 777, 778, 779, 780, 781, 782, 783, 784, 785] (by decide +kernel) (by decide +kernel)
set_option maxRecDepth 20000 in
theorem gL_law_X5_back : GoodIn wsL_law (wsV RL 83 RX5 yX5_back wsX5_back) := goodIn_app (goodIn_of _ (by decide +kernel)) ggL_law_X5_back
set_option maxRecDepth 20000 in
theorem ggL_law_X4_edges : GoodIn wsL_law wsX4_edges := goodIn_r _ [549, 17, 25, 206, 143, 144, 16, 145, 37, 227, 228, 2, 229, 83, 84, 85, 211, 212, 213, 214, 35, 142, 230, 139, 140, 141, 550, 551, 552, 24, 553, 53, 48, 49, 50, 52, 554, 354, 355, 356, 38, 318, 293, 294, 295, 272, 273, 133, 274, 296, 297, 298, 276, 208, 209, 210, 34, 277, 278, 279, 275, 555, 319, 320, 757, 758, 759, 760, 761, 762, 786, 787, 788, 789, 790, 794, 795, 796, 797, 798] (by decide +kernel) (by decide +kernel)
set_option maxRecDepth 20000 in
theorem gL_law_X4_edges : GoodIn wsL_law (wsV RL 84 RX4 yX4_edges wsX4_edges) := goodIn_app (goodIn_of _ (by decide +kernel)) ggL_law_X4_edges
set_option maxRecDepth 20000 in
theorem ggL_law_X5_edges : GoodIn wsL_law wsX5_edges := goodIn_r _ [559, 68, 219, 220, 221, 5, 222, 167, 235, 236, 237, 172, 173, 174, 560, 561, 562, 563, 168, 72, 73, 74, 75, 329, 330, 331, 332, 165, 303, 304, 305, 306, 284, 285, 286, 287, 67, 307, 308, 309, 763, 764, 765, 766, 767, 768, 769, 770, 771, 772, 773, 774, 775, 776, 777, 778, 779, 780, 781, 782, 783, 784, 785] (by decide +kernel) (by decide +kernel)
set_option maxRecDepth 20000 in
theorem gL_law_X5_edges : GoodIn wsL_law (wsV RL 87 RX5 yX5_edges wsX5_edges) := goodIn_app (goodIn_of _ (by decide +kernel)) ggL_law_X5_edges
set_option maxRecDepth 20000 in
theorem ggL_law_X4_kinds : GoodIn wsL_law wsX4_kinds := goodIn_r _ [567, 17, 25, 206, 143, 144, 16, 145, 37, 207, 208, 209, 210, 34, 142, 568, 569, 570, 571, 550, 551, 552, 24, 553, 53, 48, 49, 50, 52, 554, 354, 355, 356, 38, 318, 293, 294, 295, 272, 273, 133, 274, 296, 297, 298, 276, 277, 278, 279, 275, 212, 213, 214, 35, 555, 319, 2, 320, 757, 758, 759, 760, 761, 762, 786, 787, 788, 789, 790, 794, 795, 796, 797, 798] (by decide +kernel) (by decide +kernel)
set_option maxRecDepth 20000 in
theorem gL_law_X4_kinds : GoodIn wsL_law (wsV RL 88 RX4 yX4_kinds wsX4_kinds) := goodIn_app (goodIn_of _ (by decide +kernel)) ggL_law_X4_kinds
set_option maxRecDepth 20000 in
theorem ggL_law_X5_kinds : GoodIn wsL_law wsX5_kinds := goodIn_r _ [575, 67, 219, 220, 221, 5, 222, 167, 560, 561, 562, 563, 168, 72, 73, 74, 75, 329, 330, 331, 332, 165, 303, 304, 305, 306, 68, 284, 285, 286, 287, 307, 308, 309, 763, 764, 765, 766, 767, 768, 769, 770, 771, 772, 773, 774, 775, 776, 777, 778, 779, 780, 781, 782, 783, 784, 785] (by decide +kernel) (by decide +kernel)
set_option maxRecDepth 20000 in
theorem gL_law_X5_kinds : GoodIn wsL_law (wsV RL 91 RX5 yX5_kinds wsX5_kinds) := goodIn_app (goodIn_of _ (by decide +kernel)) ggL_law_X5_kinds
set_option maxRecDepth 20000 in
theorem ggL_law_X4_slacks : GoodIn wsL_law wsX4_slacks := goodIn_r _ [579, 17, 25, 245, 246, 247, 16, 248, 37, 249, 250, 251, 252, 38, 253, 254, 255, 256, 550, 551, 552, 24, 553, 53, 48, 49, 50, 52, 554, 354, 355, 356, 318, 293, 294, 295, 272, 273, 133, 274, 296, 297, 298, 276, 208, 209, 210, 34, 142, 143, 144, 145, 277, 278, 279, 275, 212, 213, 214, 35, 555, 319, 2, 320, 757, 758, 759, 760, 761, 762, 786, 787, 788, 789, 790, 794, 795, 796, 797, 798] (by decide +kernel) (by decide +kernel)
set_option maxRecDepth 20000 in
theorem gL_law_X4_slacks : GoodIn wsL_law (wsV RL 92 RX4 yX4_slacks wsX4_slacks) := goodIn_app (goodIn_of _ (by decide +kernel)) ggL_law_X4_slacks
set_option maxRecDepth 20000 in
theorem ggL_law_X5_slacks : GoodIn wsL_law wsX5_slacks := goodIn_r _ [583, 167, 165, 560, 561, 562, 5, 563, 168, 72, 73, 74, 75, 329, 330, 331, 332, 303, 304, 305, 306, 68, 284, 285, 286, 287, 67, 307, 308, 309, 763, 764, 765, 766, 767, 768, 769, 770, 771, 772, 773, 774, 775, 776, 777, 778, 779, 780, 781, 782, 783, 784, 785] (by decide +kernel) (by decide +kernel)
set_option maxRecDepth 20000 in
theorem gL_law_X5_slacks : GoodIn wsL_law (wsV RL 95 RX5 yX5_slacks wsX5_slacks) := goodIn_app (goodIn_of _ (by decide +kernel)) ggL_law_X5_slacks
set_option maxRecDepth 20000 in
theorem ggL_law_X4_odds : GoodIn wsL_law wsX4_odds := goodIn_r _ [587, 17, 588, 206, 143, 144, 16, 145, 37, 265, 266, 2, 267, 83, 84, 85, 314, 315, 316, 317, 38, 318, 293, 294, 295, 272, 273, 133, 274, 296, 297, 298, 276, 208, 209, 210, 34, 142, 277, 278, 279, 275, 212, 213, 214, 35, 319, 320, 493, 395, 396, 397, 398, 399, 400, 757, 758, 759, 760, 761, 762, 786, 787, 788, 789, 790] (by decide +kernel) (by decide +kernel)
set_option maxRecDepth 20000 in
theorem gL_law_X4_odds : GoodIn wsL_law (wsV RL 96 RX4 yX4_odds wsX4_odds) := goodIn_app (goodIn_of _ (by decide +kernel)) ggL_law_X4_odds
set_option maxRecDepth 20000 in
theorem ggL_law_X5_odds : GoodIn wsL_law wsX5_odds := goodIn_r _ [592, 593, 167, 219, 220, 221, 5, 222, 238, 239, 240, 172, 173, 174, 325, 326, 327, 328, 329, 330, 331, 332, 165, 303, 304, 305, 306, 68, 284, 285, 286, 287, 67, 307, 308, 309, 594, 595, 596, 763, 764, 765, 766, 767, 768, 769, 770, 771, 772, 773, 774, 775, 776, 777, 778, 779, 780, 781, 782, 783, 784, 785] (by decide +kernel) (by decide +kernel)
set_option maxRecDepth 20000 in
theorem gL_law_X5_odds : GoodIn wsL_law (wsV RL 100 RX5 yX5_odds wsX5_odds) := goodIn_app (goodIn_of _ (by decide +kernel)) ggL_law_X5_odds
set_option maxRecDepth 20000 in
theorem ggL_law_X4_sheet : GoodIn wsL_law wsX4_sheet := goodIn_r _ [600, 27, 13, 80, 81, 2, 82, 83, 84, 85, 86, 87, 88, 601, 602, 603, 604, 605, 606, 607, 29, 608, 57, 58, 59, 609, 610, 611, 612, 757, 758, 759, 760, 761, 762, 799, 800, 801] (by decide +kernel) (by decide +kernel)
set_option maxRecDepth 20000 in
theorem gL_law_X4_sheet : GoodIn wsL_law (wsV RL 101 RX4 yX4_sheet wsX4_sheet) := goodIn_app (goodIn_of _ (by decide +kernel)) ggL_law_X4_sheet
set_option maxRecDepth 20000 in
theorem ggL_law_X5_sheet : GoodIn wsL_law wsX5_sheet := goodIn_r _ [616, 162, 64, 65, 66, 169, 170, 5, 171, 172, 173, 174, 175, 176, 177, 182, 183, 184, 185, 763, 764, 765, 766, 767, 768, 769, 770, 771, 772, 773, 774, 775, 776, 777, 778, 779, 780, 781, 782, 783, 784, 785] (by decide +kernel) (by decide +kernel)
set_option maxRecDepth 20000 in
theorem gL_law_X5_sheet : GoodIn wsL_law (wsV RL 104 RX5 yX5_sheet wsX5_sheet) := goodIn_app (goodIn_of _ (by decide +kernel)) ggL_law_X5_sheet
set_option maxRecDepth 20000 in
theorem ggL_law_X4_lose : GoodIn wsL_law wsX4_lose := goodIn_r _ [620, 13, 80, 81, 2, 82, 83, 84, 85, 98, 99, 100, 29, 101, 58, 621, 622, 623, 624, 59, 757, 758, 759, 760, 761, 762, 799, 800, 801] (by decide +kernel) (by decide +kernel)
set_option maxRecDepth 20000 in
theorem gL_law_X4_lose : GoodIn wsL_law (wsV RL 105 RX4 yX4_lose wsX4_lose) := goodIn_app (goodIn_of _ (by decide +kernel)) ggL_law_X4_lose
set_option maxRecDepth 20000 in
theorem ggL_law_X5_lose : GoodIn wsL_law wsX5_lose := goodIn_r _ [628, 64, 169, 170, 5, 171, 172, 173, 174, 763, 764, 765, 766, 767, 768, 769, 770, 771, 772, 773, 774, 775, 776, 777, 778, 779, 780, 781, 782, 783, 784, 785] (by decide +kernel) (by decide +kernel)
set_option maxRecDepth 20000 in
theorem gL_law_X5_lose : GoodIn wsL_law (wsV RL 108 RX5 yX5_lose wsX5_lose) := goodIn_app (goodIn_of _ (by decide +kernel)) ggL_law_X5_lose
set_option maxRecDepth 20000 in
theorem ggL_law_X4_put : GoodIn wsL_law wsX4_put := goodIn_r _ [632, 27, 13, 80, 81, 2, 82, 83, 84, 85, 98, 99, 100, 29, 101, 58, 601, 602, 603, 604, 633, 118, 119, 120, 59, 634, 635, 636, 637, 57, 117, 638, 639, 640, 641, 757, 758, 759, 760, 761, 762, 799, 800, 801] (by decide +kernel) (by decide +kernel)
set_option maxRecDepth 20000 in
theorem gL_law_X4_put : GoodIn wsL_law (wsV RL 109 RX4 yX4_put wsX4_put) := goodIn_app (goodIn_of _ (by decide +kernel)) ggL_law_X4_put
set_option maxRecDepth 20000 in
theorem ggL_law_X5_put : GoodIn wsL_law wsX5_put := goodIn_r _ [645, 162, 64, 65, 66, 169, 170, 5, 171, 172, 173, 174, 182, 183, 184, 185, 763, 764, 765, 766, 767, 768, 769, 770, 771, 772, 773, 774, 775, 776, 777, 778, 779, 780, 781, 782, 783, 784, 785] (by decide +kernel) (by decide +kernel)
set_option maxRecDepth 20000 in
theorem gL_law_X5_put : GoodIn wsL_law (wsV RL 112 RX5 yX5_put wsX5_put) := goodIn_app (goodIn_of _ (by decide +kernel)) ggL_law_X5_put
set_option maxRecDepth 20000 in
theorem ggL_law_X4_cell : GoodIn wsL_law wsX4_cell := goodIn_r _ [649, 27, 588, 13, 80, 81, 2, 82, 83, 84, 85, 86, 87, 88, 95, 96, 97, 98, 99, 100, 29, 101, 58, 102, 103, 104, 105, 633, 118, 119, 120, 59, 650, 114, 115, 116, 57, 117, 757, 758, 759, 760, 761, 762, 799, 800, 801] (by decide +kernel) (by decide +kernel)
set_option maxRecDepth 20000 in
theorem gL_law_X4_cell : GoodIn wsL_law (wsV RL 113 RX4 yX4_cell wsX4_cell) := goodIn_app (goodIn_of _ (by decide +kernel)) ggL_law_X4_cell
set_option maxRecDepth 20000 in
theorem ggL_law_X5_cell : GoodIn wsL_law wsX5_cell := goodIn_r _ [654, 162, 593, 64, 65, 66, 169, 170, 5, 171, 172, 173, 174, 175, 176, 177, 655, 656, 657, 658, 763, 764, 765, 766, 767, 768, 769, 770, 771, 772, 773, 774, 775, 776, 777, 778, 779, 780, 781, 782, 783, 784, 785] (by decide +kernel) (by decide +kernel)
set_option maxRecDepth 20000 in
theorem gL_law_X5_cell : GoodIn wsL_law (wsV RL 116 RX5 yX5_cell wsX5_cell) := goodIn_app (goodIn_of _ (by decide +kernel)) ggL_law_X5_cell
set_option maxRecDepth 20000 in
theorem ggL_law_X4_copy : GoodIn wsL_law wsX4_copy := goodIn_r _ [662, 27, 13, 80, 81, 2, 82, 83, 84, 85, 98, 99, 100, 29, 101, 58, 601, 602, 603, 604, 663, 664, 665, 666, 102, 103, 104, 105, 106, 107, 108, 109, 59, 667, 668, 669, 670, 57, 671, 672, 673, 674, 675, 757, 758, 759, 760, 761, 762, 799, 800, 801] (by decide +kernel) (by decide +kernel)
set_option maxRecDepth 20000 in
theorem gL_law_X4_copy : GoodIn wsL_law (wsV RL 117 RX4 yX4_copy wsX4_copy) := goodIn_app (goodIn_of _ (by decide +kernel)) ggL_law_X4_copy
set_option maxRecDepth 20000 in
theorem ggL_law_X5_copy : GoodIn wsL_law wsX5_copy := goodIn_r _ [679, 162, 64, 65, 66, 169, 170, 5, 171, 172, 173, 174, 182, 183, 184, 185, 763, 764, 765, 766, 767, 768, 769, 770, 771, 772, 773, 774, 775, 776, 777, 778, 779, 780, 781, 782, 783, 784, 785] (by decide +kernel) (by decide +kernel)
set_option maxRecDepth 20000 in
theorem gL_law_X5_copy : GoodIn wsL_law (wsV RL 121 RX5 yX5_copy wsX5_copy) := goodIn_app (goodIn_of _ (by decide +kernel)) ggL_law_X5_copy
set_option maxRecDepth 20000 in
theorem ggL_law_X4_tell : GoodIn wsL_law wsX4_tell := goodIn_r _ [683, 17, 206, 143, 144, 16, 145, 37, 207, 208, 209, 210, 34, 142, 684, 685, 686, 2, 687, 688, 689, 690, 691, 26, 692, 693, 694, 695, 696, 697, 698, 699, 211, 212, 213, 214, 35, 757, 758, 759, 760, 761, 762, 786, 787, 788, 789, 790] (by decide +kernel) (by decide +kernel)
set_option maxRecDepth 20000 in
theorem gL_law_X4_tell : GoodIn wsL_law (wsV RL 122 RX4 yX4_tell wsX4_tell) := goodIn_app (goodIn_of _ (by decide +kernel)) ggL_law_X4_tell
set_option maxRecDepth 20000 in
theorem ggL_law_X5_tell : GoodIn wsL_law wsX5_tell := goodIn_r _ [703, 68, 67, 219, 220, 221, 5, 222, 167, 704, 705, 706, 707, 708, 763, 764, 765, 766, 767, 768, 769, 770, 771, 772, 773, 774, 775, 776, 777, 778, 779, 780, 781, 782, 783, 784, 785] (by decide +kernel) (by decide +kernel)
set_option maxRecDepth 20000 in
theorem gL_law_X5_tell : GoodIn wsL_law (wsV RL 125 RX5 yX5_tell wsX5_tell) := goodIn_app (goodIn_of _ (by decide +kernel)) ggL_law_X5_tell
set_option maxRecDepth 20000 in
theorem ggL_law_X4_seal : GoodIn wsL_law wsX4_seal := goodIn_r _ [712, 17, 206, 143, 144, 16, 145, 37, 207, 208, 209, 210, 34, 142, 713, 714, 715, 2, 716, 688, 689, 690, 691, 26, 717, 718, 719, 720, 757, 758, 759, 760, 761, 762, 786, 787, 788, 789, 790] (by decide +kernel) (by decide +kernel)
set_option maxRecDepth 20000 in
theorem gL_law_X4_seal : GoodIn wsL_law (wsV RL 126 RX4 yX4_seal wsX4_seal) := goodIn_app (goodIn_of _ (by decide +kernel)) ggL_law_X4_seal
set_option maxRecDepth 20000 in
theorem ggL_law_X5_seal : GoodIn wsL_law wsX5_seal := goodIn_r _ [724, 67, 219, 220, 221, 5, 222, 167, 704, 705, 706, 707, 708, 763, 764, 765, 766, 767, 768, 769, 770, 771, 772, 773, 774, 775, 776, 777, 778, 779, 780, 781, 782, 783, 784, 785] (by decide +kernel) (by decide +kernel)
set_option maxRecDepth 20000 in
theorem gL_law_X5_seal : GoodIn wsL_law (wsV RL 129 RX5 yX5_seal wsX5_seal) := goodIn_app (goodIn_of _ (by decide +kernel)) ggL_law_X5_seal
set_option maxRecDepth 20000 in
theorem ggL_law_X4_as : GoodIn wsL_law wsX4_as := goodIn_r _ [728, 27, 17, 206, 143, 144, 16, 145, 37, 83, 84, 2, 85, 207, 208, 209, 210, 34, 142, 601, 602, 603, 604, 757, 758, 759, 760, 761, 762, 786, 787, 788, 789, 790] (by decide +kernel) (by decide +kernel)
set_option maxRecDepth 20000 in
theorem gL_law_X4_as : GoodIn wsL_law (wsV RL 130 RX4 yX4_as wsX4_as) := goodIn_app (goodIn_of _ (by decide +kernel)) ggL_law_X4_as
set_option maxRecDepth 20000 in
theorem ggL_law_X5_as : GoodIn wsL_law wsX5_as := goodIn_r _ [732, 162, 67, 219, 220, 221, 5, 222, 167, 172, 173, 174, 182, 183, 184, 185, 763, 764, 765, 766, 767, 768, 769, 770, 771, 772, 773, 774, 775, 776, 777, 778, 779, 780, 781, 782, 783, 784, 785] (by decide +kernel) (by decide +kernel)
set_option maxRecDepth 20000 in
theorem gL_law_X5_as : GoodIn wsL_law (wsV RL 133 RX5 yX5_as wsX5_as) := goodIn_app (goodIn_of _ (by decide +kernel)) ggL_law_X5_as
set_option maxRecDepth 20000 in
theorem ggL_law_X4_trace : GoodIn wsL_law wsX4_trace := goodIn_r _ [736, 26, 757, 758, 759, 760, 761, 762] (by decide +kernel) (by decide +kernel)
set_option maxRecDepth 20000 in
theorem gL_law_X4_trace : GoodIn wsL_law (wsV RL 134 RX4 yX4_trace wsX4_trace) := goodIn_app (goodIn_of _ (by decide +kernel)) ggL_law_X4_trace
set_option maxRecDepth 20000 in
theorem ggL_law_X5_trace : GoodIn wsL_law wsX5_trace := goodIn_r _ [740, 708, 763, 764, 765, 766, 767, 768, 769, 770, 771, 772, 773, 774, 775, 776, 777, 778, 779, 780, 781, 782, 783, 784, 785] (by decide +kernel) (by decide +kernel)
set_option maxRecDepth 20000 in
theorem gL_law_X5_trace : GoodIn wsL_law (wsV RL 137 RX5 yX5_trace wsX5_trace) := goodIn_app (goodIn_of _ (by decide +kernel)) ggL_law_X5_trace
set_option maxRecDepth 20000 in
theorem ggL_law_X4_fault : GoodIn wsL_law wsX4_fault := goodIn_r _ [744, 27, 757, 758, 759, 760, 761, 762] (by decide +kernel) (by decide +kernel)
set_option maxRecDepth 20000 in
theorem gL_law_X4_fault : GoodIn wsL_law (wsV RL 138 RX4 yX4_fault wsX4_fault) := goodIn_app (goodIn_of _ (by decide +kernel)) ggL_law_X4_fault
set_option maxRecDepth 20000 in
theorem ggL_law_X5_fault : GoodIn wsL_law wsX5_fault := goodIn_r _ [748, 162, 763, 764, 765, 766, 767, 768, 769, 770, 771, 772, 773, 774, 775, 776, 777, 778, 779, 780, 781, 782, 783, 784, 785] (by decide +kernel) (by decide +kernel)
set_option maxRecDepth 20000 in
theorem gL_law_X5_fault : GoodIn wsL_law (wsV RL 141 RX5 yX5_fault wsX5_fault) := goodIn_app (goodIn_of _ (by decide +kernel)) ggL_law_X5_fault
set_option maxRecDepth 20000 in
theorem ggL_law_X4_many : GoodIn wsL_law wsX4_many := goodIn_r _ [752, 17, 25, 154, 155, 156, 16, 157, 37, 249, 250, 251, 252, 38, 146, 147, 148, 24, 149, 53, 757, 758, 759, 760, 761, 762, 786, 787, 788, 789, 790, 794, 795, 796, 797, 798] (by decide +kernel) (by decide +kernel)
set_option maxRecDepth 20000 in
theorem gL_law_X4_many : GoodIn wsL_law (wsV RL 142 RX4 yX4_many wsX4_many) := goodIn_app (goodIn_of _ (by decide +kernel)) ggL_law_X4_many
set_option maxRecDepth 20000 in
theorem ggL_law_X5_many : GoodIn wsL_law wsX5_many := goodIn_r _ [756, 167, 165, 168, 763, 764, 765, 766, 767, 768, 769, 770, 771, 772, 773, 774, 775, 776, 777, 778, 779, 780, 781, 782, 783, 784, 785] (by decide +kernel) (by decide +kernel)
set_option maxRecDepth 20000 in
theorem gL_law_X5_many : GoodIn wsL_law (wsV RL 145 RX5 yX5_many wsX5_many) := goodIn_app (goodIn_of _ (by decide +kernel)) ggL_law_X5_many
theorem dL_law_0 : decode cL_law 0 = .ok (.new 7, 3) := by decide +kernel
theorem dL_law_3 : decode cL_law 3 = .ok (.dup, 1) := by decide +kernel
theorem dL_law_4 : decode cL_law 4 = .ok (.invokespecial 9, 3) := by decide +kernel
theorem dL_law_7 : decode cL_law 7 = .ok (.astore_n 1, 1) := by decide +kernel
theorem dL_law_8 : decode cL_law 8 = .ok (.new 10, 3) := by decide +kernel
theorem dL_law_11 : decode cL_law 11 = .ok (.dup, 1) := by decide +kernel
theorem dL_law_12 : decode cL_law 12 = .ok (.invokespecial 12, 3) := by decide +kernel
theorem dL_law_15 : decode cL_law 15 = .ok (.astore_n 2, 1) := by decide +kernel
theorem dL_law_16 : decode cL_law 16 = .ok (.iconst 0, 1) := by decide +kernel
theorem dL_law_17 : decode cL_law 17 = .ok (.istore_n 3, 1) := by decide +kernel
theorem dL_law_18 : decode cL_law 18 = .ok (.iload_n 3, 1) := by decide +kernel
theorem dL_law_19 : decode cL_law 19 = .ok (.aload_n 0, 1) := by decide +kernel
theorem dL_law_20 : decode cL_law 20 = .ok (.arraylength, 1) := by decide +kernel
theorem dL_law_21 : decode cL_law 21 = .ok (.bipush 7, 2) := by decide +kernel
theorem dL_law_23 : decode cL_law 23 = .ok (.isub, 1) := by decide +kernel
theorem dL_law_24 : decode cL_law 24 = .ok (.if_icmp .gt 1197, 3) := by decide +kernel
theorem dL_law_27 : decode cL_law 27 = .ok (.aload_n 0, 1) := by decide +kernel
theorem dL_law_28 : decode cL_law 28 = .ok (.iload_n 3, 1) := by decide +kernel
theorem dL_law_29 : decode cL_law 29 = .ok (.iaload, 1) := by decide +kernel
theorem dL_law_30 : decode cL_law 30 = .ok (.bipush 31, 2) := by decide +kernel
theorem dL_law_32 : decode cL_law 32 = .ok (.iand, 1) := by decide +kernel
theorem dL_law_33 : decode cL_law 33 = .ok (.tableswitch 1182 0 30 #[139, 192, 225, 268, 291, 334, 377, 410, 443, 466, 489, 502, 535, 558, 633, 702, 725, 758, 781, 794, 838, 881, 904, 947, 991, 1054, 1077, 1100, 1133, 1146, 1159], 139) := by decide +kernel
theorem dL_law_172 : decode cL_law 172 = .ok (.aload_n 1, 1) := by decide +kernel
theorem dL_law_173 : decode cL_law 173 = .ok (.aload_n 0, 1) := by decide +kernel
theorem dL_law_174 : decode cL_law 174 = .ok (.iload_n 3, 1) := by decide +kernel
theorem dL_law_175 : decode cL_law 175 = .ok (.iconst 1, 1) := by decide +kernel
theorem dL_law_176 : decode cL_law 176 = .ok (.iadd, 1) := by decide +kernel
theorem dL_law_177 : decode cL_law 177 = .ok (.iaload, 1) := by decide +kernel
theorem dL_law_178 : decode cL_law 178 = .ok (.aload_n 0, 1) := by decide +kernel
theorem dL_law_179 : decode cL_law 179 = .ok (.iload_n 3, 1) := by decide +kernel
theorem dL_law_180 : decode cL_law 180 = .ok (.iconst 2, 1) := by decide +kernel
theorem dL_law_181 : decode cL_law 181 = .ok (.iadd, 1) := by decide +kernel
theorem dL_law_182 : decode cL_law 182 = .ok (.iaload, 1) := by decide +kernel
theorem dL_law_183 : decode cL_law 183 = .ok (.aload_n 0, 1) := by decide +kernel
theorem dL_law_184 : decode cL_law 184 = .ok (.iload_n 3, 1) := by decide +kernel
theorem dL_law_185 : decode cL_law 185 = .ok (.iconst 3, 1) := by decide +kernel
theorem dL_law_186 : decode cL_law 186 = .ok (.iadd, 1) := by decide +kernel
theorem dL_law_187 : decode cL_law 187 = .ok (.iaload, 1) := by decide +kernel
theorem dL_law_188 : decode cL_law 188 = .ok (.aload_n 0, 1) := by decide +kernel
theorem dL_law_189 : decode cL_law 189 = .ok (.iload_n 3, 1) := by decide +kernel
theorem dL_law_190 : decode cL_law 190 = .ok (.iconst 4, 1) := by decide +kernel
theorem dL_law_191 : decode cL_law 191 = .ok (.iadd, 1) := by decide +kernel
theorem dL_law_192 : decode cL_law 192 = .ok (.iaload, 1) := by decide +kernel
theorem dL_law_193 : decode cL_law 193 = .ok (.invokevirtual 13, 3) := by decide +kernel
theorem dL_law_196 : decode cL_law 196 = .ok (.aload_n 2, 1) := by decide +kernel
theorem dL_law_197 : decode cL_law 197 = .ok (.aload_n 0, 1) := by decide +kernel
theorem dL_law_198 : decode cL_law 198 = .ok (.iload_n 3, 1) := by decide +kernel
theorem dL_law_199 : decode cL_law 199 = .ok (.iconst 1, 1) := by decide +kernel
theorem dL_law_200 : decode cL_law 200 = .ok (.iadd, 1) := by decide +kernel
theorem dL_law_201 : decode cL_law 201 = .ok (.iaload, 1) := by decide +kernel
theorem dL_law_202 : decode cL_law 202 = .ok (.aload_n 0, 1) := by decide +kernel
theorem dL_law_203 : decode cL_law 203 = .ok (.iload_n 3, 1) := by decide +kernel
theorem dL_law_204 : decode cL_law 204 = .ok (.iconst 2, 1) := by decide +kernel
theorem dL_law_205 : decode cL_law 205 = .ok (.iadd, 1) := by decide +kernel
theorem dL_law_206 : decode cL_law 206 = .ok (.iaload, 1) := by decide +kernel
theorem dL_law_207 : decode cL_law 207 = .ok (.aload_n 0, 1) := by decide +kernel
theorem dL_law_208 : decode cL_law 208 = .ok (.iload_n 3, 1) := by decide +kernel
theorem dL_law_209 : decode cL_law 209 = .ok (.iconst 3, 1) := by decide +kernel
theorem dL_law_210 : decode cL_law 210 = .ok (.iadd, 1) := by decide +kernel
theorem dL_law_211 : decode cL_law 211 = .ok (.iaload, 1) := by decide +kernel
theorem dL_law_212 : decode cL_law 212 = .ok (.aload_n 0, 1) := by decide +kernel
theorem dL_law_213 : decode cL_law 213 = .ok (.iload_n 3, 1) := by decide +kernel
theorem dL_law_214 : decode cL_law 214 = .ok (.iconst 4, 1) := by decide +kernel
theorem dL_law_215 : decode cL_law 215 = .ok (.iadd, 1) := by decide +kernel
theorem dL_law_216 : decode cL_law 216 = .ok (.iaload, 1) := by decide +kernel
theorem dL_law_217 : decode cL_law 217 = .ok (.invokevirtual 17, 3) := by decide +kernel
theorem dL_law_220 : decode cL_law 220 = .ok (.if_icmp .eq 995, 3) := by decide +kernel
theorem dL_law_223 : decode cL_law 223 = .ok (.iconst 0, 1) := by decide +kernel
theorem dL_law_224 : decode cL_law 224 = .ok (.ireturn, 1) := by decide +kernel
theorem dL_law_225 : decode cL_law 225 = .ok (.aload_n 1, 1) := by decide +kernel
theorem dL_law_226 : decode cL_law 226 = .ok (.aload_n 0, 1) := by decide +kernel
theorem dL_law_227 : decode cL_law 227 = .ok (.iload_n 3, 1) := by decide +kernel
theorem dL_law_228 : decode cL_law 228 = .ok (.iconst 1, 1) := by decide +kernel
theorem dL_law_229 : decode cL_law 229 = .ok (.iadd, 1) := by decide +kernel
theorem dL_law_230 : decode cL_law 230 = .ok (.iaload, 1) := by decide +kernel
theorem dL_law_231 : decode cL_law 231 = .ok (.aload_n 0, 1) := by decide +kernel
theorem dL_law_232 : decode cL_law 232 = .ok (.iload_n 3, 1) := by decide +kernel
theorem dL_law_233 : decode cL_law 233 = .ok (.iconst 2, 1) := by decide +kernel
theorem dL_law_234 : decode cL_law 234 = .ok (.iadd, 1) := by decide +kernel
theorem dL_law_235 : decode cL_law 235 = .ok (.iaload, 1) := by decide +kernel
theorem dL_law_236 : decode cL_law 236 = .ok (.invokevirtual 18, 3) := by decide +kernel
theorem dL_law_239 : decode cL_law 239 = .ok (.aload_n 2, 1) := by decide +kernel
theorem dL_law_240 : decode cL_law 240 = .ok (.aload_n 0, 1) := by decide +kernel
theorem dL_law_241 : decode cL_law 241 = .ok (.iload_n 3, 1) := by decide +kernel
theorem dL_law_242 : decode cL_law 242 = .ok (.iconst 1, 1) := by decide +kernel
theorem dL_law_243 : decode cL_law 243 = .ok (.iadd, 1) := by decide +kernel
theorem dL_law_244 : decode cL_law 244 = .ok (.iaload, 1) := by decide +kernel
theorem dL_law_245 : decode cL_law 245 = .ok (.aload_n 0, 1) := by decide +kernel
theorem dL_law_246 : decode cL_law 246 = .ok (.iload_n 3, 1) := by decide +kernel
theorem dL_law_247 : decode cL_law 247 = .ok (.iconst 2, 1) := by decide +kernel
theorem dL_law_248 : decode cL_law 248 = .ok (.iadd, 1) := by decide +kernel
theorem dL_law_249 : decode cL_law 249 = .ok (.iaload, 1) := by decide +kernel
theorem dL_law_250 : decode cL_law 250 = .ok (.invokevirtual 22, 3) := by decide +kernel
theorem dL_law_253 : decode cL_law 253 = .ok (.if_icmp .eq 962, 3) := by decide +kernel
theorem dL_law_256 : decode cL_law 256 = .ok (.iconst 0, 1) := by decide +kernel
theorem dL_law_257 : decode cL_law 257 = .ok (.ireturn, 1) := by decide +kernel
