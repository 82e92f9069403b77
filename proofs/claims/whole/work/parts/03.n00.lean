theorem dX0_init_0 : decode cX0_init 0 = .ok (.aload_n 0, 1) := by decide +kernel
theorem dX0_init_1 : decode cX0_init 1 = .ok (.invokespecial 3, 3) := by decide +kernel
theorem dX0_init_4 : decode cX0_init 4 = .ok (.aload_n 0, 1) := by decide +kernel
theorem dX0_init_5 : decode cX0_init 5 = .ok (.bipush 6, 2) := by decide +kernel
theorem dX0_init_7 : decode cX0_init 7 = .ok (.newarray .int, 2) := by decide +kernel
theorem dX0_init_9 : decode cX0_init 9 = .ok (.putfield 9, 3) := by decide +kernel
theorem dX0_init_12 : decode cX0_init 12 = .ok (.aload_n 0, 1) := by decide +kernel
theorem dX0_init_13 : decode cX0_init 13 = .ok (.bipush 18, 2) := by decide +kernel
theorem dX0_init_15 : decode cX0_init 15 = .ok (.newarray .int, 2) := by decide +kernel
theorem dX0_init_17 : decode cX0_init 17 = .ok (.putfield 15, 3) := by decide +kernel
theorem dX0_init_20 : decode cX0_init 20 = .ok (.aload_n 0, 1) := by decide +kernel
theorem dX0_init_21 : decode cX0_init 21 = .ok (.bipush 6, 2) := by decide +kernel
theorem dX0_init_23 : decode cX0_init 23 = .ok (.newarray .int, 2) := by decide +kernel
theorem dX0_init_25 : decode cX0_init 25 = .ok (.putfield 18, 3) := by decide +kernel
theorem dX0_init_28 : decode cX0_init 28 = .ok (.aload_n 0, 1) := by decide +kernel
theorem dX0_init_29 : decode cX0_init 29 = .ok (.iconst 0, 1) := by decide +kernel
theorem dX0_init_30 : decode cX0_init 30 = .ok (.putfield 21, 3) := by decide +kernel
theorem dX0_init_33 : decode cX0_init 33 = .ok (.aload_n 0, 1) := by decide +kernel
theorem dX0_init_34 : decode cX0_init 34 = .ok (.iconst 0, 1) := by decide +kernel
theorem dX0_init_35 : decode cX0_init 35 = .ok (.putfield 25, 3) := by decide +kernel
theorem dX0_init_38 : decode cX0_init 38 = .ok (.return_, 1) := by decide +kernel
set_option maxRecDepth 20000 in
theorem ggX0_firstWrongCode_X2_at : GoodIn wsX0_firstWrongCode wsX2_at := goodIn_r _ [5, 6, 7, 8, 9, 4, 10, 11, 19, 20, 21] (by decide +kernel) (by decide +kernel)
set_option maxRecDepth 20000 in
theorem gX0_firstWrongCode_X2_at : GoodIn wsX0_firstWrongCode (wsV RX0 28 RX2 yX2_at wsX2_at) := goodIn_app (goodIn_of _ (by decide +kernel)) ggX0_firstWrongCode_X2_at
set_option maxRecDepth 20000 in
theorem ggX0_firstWrongCode_X0_goesOn : GoodIn wsX0_firstWrongCode wsX0_goesOn := goodIn_r _ [15, 16, 17, 14, 18] (by decide +kernel) (by decide +kernel)
set_option maxRecDepth 20000 in
theorem gX0_firstWrongCode_X0_goesOn : GoodIn wsX0_firstWrongCode (va_wsS RX0 34 yX0_goesOn wsX0_goesOn) := goodIn_app (goodIn_of _ (by decide +kernel)) ggX0_firstWrongCode_X0_goesOn
theorem dX0_firstWrongCode_0 : decode cX0_firstWrongCode 0 = .ok (.iconst 0, 1) := by decide +kernel
theorem dX0_firstWrongCode_1 : decode cX0_firstWrongCode 1 = .ok (.istore_n 3, 1) := by decide +kernel
theorem dX0_firstWrongCode_2 : decode cX0_firstWrongCode 2 = .ok (.iload_n 3, 1) := by decide +kernel
theorem dX0_firstWrongCode_3 : decode cX0_firstWrongCode 3 = .ok (.iload_n 2, 1) := by decide +kernel
theorem dX0_firstWrongCode_4 : decode cX0_firstWrongCode 4 = .ok (.if_icmp .ge 25, 3) := by decide +kernel
theorem dX0_firstWrongCode_7 : decode cX0_firstWrongCode 7 = .ok (.iload_n 3, 1) := by decide +kernel
theorem dX0_firstWrongCode_8 : decode cX0_firstWrongCode 8 = .ok (.aload_n 0, 1) := by decide +kernel
theorem dX0_firstWrongCode_9 : decode cX0_firstWrongCode 9 = .ok (.iload_n 1, 1) := by decide +kernel
theorem dX0_firstWrongCode_10 : decode cX0_firstWrongCode 10 = .ok (.iload_n 3, 1) := by decide +kernel
theorem dX0_firstWrongCode_11 : decode cX0_firstWrongCode 11 = .ok (.iadd, 1) := by decide +kernel
theorem dX0_firstWrongCode_12 : decode cX0_firstWrongCode 12 = .ok (.invokevirtual 28, 3) := by decide +kernel
theorem dX0_firstWrongCode_15 : decode cX0_firstWrongCode 15 = .ok (.invokestatic 34, 3) := by decide +kernel
theorem dX0_firstWrongCode_18 : decode cX0_firstWrongCode 18 = .ok (.ifCond .ne 5, 3) := by decide +kernel
theorem dX0_firstWrongCode_21 : decode cX0_firstWrongCode 21 = .ok (.iload_n 3, 1) := by decide +kernel
theorem dX0_firstWrongCode_22 : decode cX0_firstWrongCode 22 = .ok (.ireturn, 1) := by decide +kernel
theorem dX0_firstWrongCode_23 : decode cX0_firstWrongCode 23 = .ok (.iinc 3 1, 3) := by decide +kernel
theorem dX0_firstWrongCode_26 : decode cX0_firstWrongCode 26 = .ok (.goto (-24), 3) := by decide +kernel
theorem dX0_firstWrongCode_29 : decode cX0_firstWrongCode 29 = .ok (.iload_n 2, 1) := by decide +kernel
theorem dX0_firstWrongCode_30 : decode cX0_firstWrongCode 30 = .ok (.bipush 12, 2) := by decide +kernel
theorem dX0_firstWrongCode_32 : decode cX0_firstWrongCode 32 = .ok (.if_icmp .lt 15, 3) := by decide +kernel
theorem dX0_firstWrongCode_35 : decode cX0_firstWrongCode 35 = .ok (.iload_n 2, 1) := by decide +kernel
theorem dX0_firstWrongCode_36 : decode cX0_firstWrongCode 36 = .ok (.iconst 2, 1) := by decide +kernel
theorem dX0_firstWrongCode_37 : decode cX0_firstWrongCode 37 = .ok (.isub, 1) := by decide +kernel
theorem dX0_firstWrongCode_38 : decode cX0_firstWrongCode 38 = .ok (.iconst 5, 1) := by decide +kernel
theorem dX0_firstWrongCode_39 : decode cX0_firstWrongCode 39 = .ok (.irem, 1) := by decide +kernel
theorem dX0_firstWrongCode_40 : decode cX0_firstWrongCode 40 = .ok (.ifCond .ne 7, 3) := by decide +kernel
theorem dX0_firstWrongCode_43 : decode cX0_firstWrongCode 43 = .ok (.iconst 1, 1) := by decide +kernel
theorem dX0_firstWrongCode_44 : decode cX0_firstWrongCode 44 = .ok (.goto 4, 3) := by decide +kernel
theorem dX0_firstWrongCode_47 : decode cX0_firstWrongCode 47 = .ok (.iconst 0, 1) := by decide +kernel
theorem dX0_firstWrongCode_48 : decode cX0_firstWrongCode 48 = .ok (.istore_n 3, 1) := by decide +kernel
theorem dX0_firstWrongCode_49 : decode cX0_firstWrongCode 49 = .ok (.iload_n 3, 1) := by decide +kernel
theorem dX0_firstWrongCode_50 : decode cX0_firstWrongCode 50 = .ok (.ifCond .eq 8, 3) := by decide +kernel
theorem dX0_firstWrongCode_53 : decode cX0_firstWrongCode 53 = .ok (.bipush (-9), 2) := by decide +kernel
theorem dX0_firstWrongCode_55 : decode cX0_firstWrongCode 55 = .ok (.goto 4, 3) := by decide +kernel
theorem dX0_firstWrongCode_58 : decode cX0_firstWrongCode 58 = .ok (.iload_n 2, 1) := by decide +kernel
theorem dX0_firstWrongCode_59 : decode cX0_firstWrongCode 59 = .ok (.ireturn, 1) := by decide +kernel
set_option maxRecDepth 20000 in
theorem ggX0_goesOn_X0_isDigit : GoodIn wsX0_goesOn wsX0_isDigit := goodIn_r _ [4] (by decide +kernel) (by decide +kernel)
set_option maxRecDepth 20000 in
theorem gX0_goesOn_X0_isDigit : GoodIn wsX0_goesOn (va_wsS RX0 38 yX0_isDigit wsX0_isDigit) := goodIn_app (goodIn_of _ (by decide +kernel)) ggX0_goesOn_X0_isDigit
theorem dX0_goesOn_0 : decode cX0_goesOn 0 = .ok (.iload_n 0, 1) := by decide +kernel
theorem dX0_goesOn_1 : decode cX0_goesOn 1 = .ok (.bipush 32, 2) := by decide +kernel
theorem dX0_goesOn_3 : decode cX0_goesOn 3 = .ok (.if_icmp .lt 5, 3) := by decide +kernel
theorem dX0_goesOn_6 : decode cX0_goesOn 6 = .ok (.iconst 0, 1) := by decide +kernel
theorem dX0_goesOn_7 : decode cX0_goesOn 7 = .ok (.ireturn, 1) := by decide +kernel
theorem dX0_goesOn_8 : decode cX0_goesOn 8 = .ok (.iload_n 0, 1) := by decide +kernel
theorem dX0_goesOn_9 : decode cX0_goesOn 9 = .ok (.iconst 2, 1) := by decide +kernel
theorem dX0_goesOn_10 : decode cX0_goesOn 10 = .ok (.if_icmp .ge 26, 3) := by decide +kernel
theorem dX0_goesOn_13 : decode cX0_goesOn 13 = .ok (.iload_n 0, 1) := by decide +kernel
theorem dX0_goesOn_14 : decode cX0_goesOn 14 = .ok (.ifCond .ne 17, 3) := by decide +kernel
theorem dX0_goesOn_17 : decode cX0_goesOn 17 = .ok (.iload_n 1, 1) := by decide +kernel
theorem dX0_goesOn_18 : decode cX0_goesOn 18 = .ok (.bipush 101, 2) := by decide +kernel
theorem dX0_goesOn_20 : decode cX0_goesOn 20 = .ok (.if_icmp .ne 7, 3) := by decide +kernel
theorem dX0_goesOn_23 : decode cX0_goesOn 23 = .ok (.iconst 1, 1) := by decide +kernel
theorem dX0_goesOn_24 : decode cX0_goesOn 24 = .ok (.goto 11, 3) := by decide +kernel
theorem dX0_goesOn_27 : decode cX0_goesOn 27 = .ok (.iconst 0, 1) := by decide +kernel
theorem dX0_goesOn_28 : decode cX0_goesOn 28 = .ok (.goto 7, 3) := by decide +kernel
theorem dX0_goesOn_31 : decode cX0_goesOn 31 = .ok (.iload_n 1, 1) := by decide +kernel
theorem dX0_goesOn_32 : decode cX0_goesOn 32 = .ok (.invokestatic 38, 3) := by decide +kernel
theorem dX0_goesOn_35 : decode cX0_goesOn 35 = .ok (.ireturn, 1) := by decide +kernel
theorem dX0_goesOn_36 : decode cX0_goesOn 36 = .ok (.iload_n 0, 1) := by decide +kernel
theorem dX0_goesOn_37 : decode cX0_goesOn 37 = .ok (.iconst 2, 1) := by decide +kernel
theorem dX0_goesOn_38 : decode cX0_goesOn 38 = .ok (.isub, 1) := by decide +kernel
theorem dX0_goesOn_39 : decode cX0_goesOn 39 = .ok (.iconst 5, 1) := by decide +kernel
theorem dX0_goesOn_40 : decode cX0_goesOn 40 = .ok (.irem, 1) := by decide +kernel
theorem dX0_goesOn_41 : decode cX0_goesOn 41 = .ok (.lookupswitch 63 #[(0, 27), (1, 39)], 27) := by decide +kernel
theorem dX0_goesOn_68 : decode cX0_goesOn 68 = .ok (.iload_n 1, 1) := by decide +kernel
theorem dX0_goesOn_69 : decode cX0_goesOn 69 = .ok (.bipush 59, 2) := by decide +kernel
theorem dX0_goesOn_71 : decode cX0_goesOn 71 = .ok (.if_icmp .ne 7, 3) := by decide +kernel
theorem dX0_goesOn_74 : decode cX0_goesOn 74 = .ok (.iconst 1, 1) := by decide +kernel
theorem dX0_goesOn_75 : decode cX0_goesOn 75 = .ok (.goto 4, 3) := by decide +kernel
theorem dX0_goesOn_78 : decode cX0_goesOn 78 = .ok (.iconst 0, 1) := by decide +kernel
theorem dX0_goesOn_79 : decode cX0_goesOn 79 = .ok (.ireturn, 1) := by decide +kernel
theorem dX0_goesOn_80 : decode cX0_goesOn 80 = .ok (.iload_n 1, 1) := by decide +kernel
theorem dX0_goesOn_81 : decode cX0_goesOn 81 = .ok (.bipush 112, 2) := by decide +kernel
theorem dX0_goesOn_83 : decode cX0_goesOn 83 = .ok (.if_icmp .eq 15, 3) := by decide +kernel
theorem dX0_goesOn_86 : decode cX0_goesOn 86 = .ok (.iload_n 1, 1) := by decide +kernel
theorem dX0_goesOn_87 : decode cX0_goesOn 87 = .ok (.bipush 108, 2) := by decide +kernel
theorem dX0_goesOn_89 : decode cX0_goesOn 89 = .ok (.if_icmp .eq 9, 3) := by decide +kernel
theorem dX0_goesOn_92 : decode cX0_goesOn 92 = .ok (.iload_n 1, 1) := by decide +kernel
theorem dX0_goesOn_93 : decode cX0_goesOn 93 = .ok (.bipush 100, 2) := by decide +kernel
theorem dX0_goesOn_95 : decode cX0_goesOn 95 = .ok (.if_icmp .ne 7, 3) := by decide +kernel
theorem dX0_goesOn_98 : decode cX0_goesOn 98 = .ok (.iconst 1, 1) := by decide +kernel
theorem dX0_goesOn_99 : decode cX0_goesOn 99 = .ok (.goto 4, 3) := by decide +kernel
theorem dX0_goesOn_102 : decode cX0_goesOn 102 = .ok (.iconst 0, 1) := by decide +kernel
theorem dX0_goesOn_103 : decode cX0_goesOn 103 = .ok (.ireturn, 1) := by decide +kernel
theorem dX0_goesOn_104 : decode cX0_goesOn 104 = .ok (.iload_n 1, 1) := by decide +kernel
theorem dX0_goesOn_105 : decode cX0_goesOn 105 = .ok (.invokestatic 38, 3) := by decide +kernel
theorem dX0_goesOn_108 : decode cX0_goesOn 108 = .ok (.ireturn, 1) := by decide +kernel
theorem dX0_isDigit_0 : decode cX0_isDigit 0 = .ok (.iload_n 0, 1) := by decide +kernel
theorem dX0_isDigit_1 : decode cX0_isDigit 1 = .ok (.bipush 48, 2) := by decide +kernel
theorem dX0_isDigit_3 : decode cX0_isDigit 3 = .ok (.if_icmp .lt 13, 3) := by decide +kernel
theorem dX0_isDigit_6 : decode cX0_isDigit 6 = .ok (.iload_n 0, 1) := by decide +kernel
theorem dX0_isDigit_7 : decode cX0_isDigit 7 = .ok (.bipush 57, 2) := by decide +kernel
theorem dX0_isDigit_9 : decode cX0_isDigit 9 = .ok (.if_icmp .gt 7, 3) := by decide +kernel
theorem dX0_isDigit_12 : decode cX0_isDigit 12 = .ok (.iconst 1, 1) := by decide +kernel
theorem dX0_isDigit_13 : decode cX0_isDigit 13 = .ok (.goto 4, 3) := by decide +kernel
theorem dX0_isDigit_16 : decode cX0_isDigit 16 = .ok (.iconst 0, 1) := by decide +kernel
theorem dX0_isDigit_17 : decode cX0_isDigit 17 = .ok (.ireturn, 1) := by decide +kernel
theorem dX0_kindByLetter_0 : decode cX0_kindByLetter 0 = .ok (.iload_n 0, 1) := by decide +kernel
theorem dX0_kindByLetter_1 : decode cX0_kindByLetter 1 = .ok (.lookupswitch 31 #[(100, 27), (108, 29)], 27) := by decide +kernel
theorem dX0_kindByLetter_28 : decode cX0_kindByLetter 28 = .ok (.iconst 2, 1) := by decide +kernel
theorem dX0_kindByLetter_29 : decode cX0_kindByLetter 29 = .ok (.ireturn, 1) := by decide +kernel
theorem dX0_kindByLetter_30 : decode cX0_kindByLetter 30 = .ok (.iconst 1, 1) := by decide +kernel
theorem dX0_kindByLetter_31 : decode cX0_kindByLetter 31 = .ok (.ireturn, 1) := by decide +kernel
theorem dX0_kindByLetter_32 : decode cX0_kindByLetter 32 = .ok (.iconst 0, 1) := by decide +kernel
theorem dX0_kindByLetter_33 : decode cX0_kindByLetter 33 = .ok (.ireturn, 1) := by decide +kernel
set_option maxRecDepth 20000 in
theorem ggX0_takeText_X2_at : GoodIn wsX0_takeText wsX2_at := goodIn_r _ [12, 13, 14, 15, 16, 11, 17, 18, 37, 38, 39] (by decide +kernel) (by decide +kernel)
set_option maxRecDepth 20000 in
theorem gX0_takeText_X2_at : GoodIn wsX0_takeText (wsV RX0 28 RX2 yX2_at wsX2_at) := goodIn_app (goodIn_of _ (by decide +kernel)) ggX0_takeText_X2_at
set_option maxRecDepth 20000 in
theorem ggX0_takeText_X0_kindByLetter : GoodIn wsX0_takeText wsX0_kindByLetter := goodIn_r _ [22] (by decide +kernel) (by decide +kernel)
set_option maxRecDepth 20000 in
theorem gX0_takeText_X0_kindByLetter : GoodIn wsX0_takeText (va_wsS RX0 48 yX0_kindByLetter wsX0_kindByLetter) := goodIn_app (goodIn_of _ (by decide +kernel)) ggX0_takeText_X0_kindByLetter
set_option maxRecDepth 20000 in
theorem ggX0_takeText_X0_setHeight : GoodIn wsX0_takeText wsX0_setHeight := goodIn_r _ [26, 27, 28, 29, 30, 21, 31, 5, 32, 33, 34, 35, 36] (by decide +kernel) (by decide +kernel)
set_option maxRecDepth 20000 in
theorem gX0_takeText_X0_setHeight : GoodIn wsX0_takeText (wsV RX0 51 RX0 yX0_setHeight wsX0_setHeight) := goodIn_app (goodIn_of _ (by decide +kernel)) ggX0_takeText_X0_setHeight
theorem dX0_takeText_0 : decode cX0_takeText 0 = .ok (.aload_n 0, 1) := by decide +kernel
theorem dX0_takeText_1 : decode cX0_takeText 1 = .ok (.iload_n 3, 1) := by decide +kernel
theorem dX0_takeText_2 : decode cX0_takeText 2 = .ok (.iconst 2, 1) := by decide +kernel
theorem dX0_takeText_3 : decode cX0_takeText 3 = .ok (.isub, 1) := by decide +kernel
theorem dX0_takeText_4 : decode cX0_takeText 4 = .ok (.iconst 5, 1) := by decide +kernel
theorem dX0_takeText_5 : decode cX0_takeText 5 = .ok (.idiv, 1) := by decide +kernel
theorem dX0_takeText_6 : decode cX0_takeText 6 = .ok (.bipush 6, 2) := by decide +kernel
theorem dX0_takeText_8 : decode cX0_takeText 8 = .ok (.invokestatic 42, 3) := by decide +kernel
theorem dX0_takeText_11 : decode cX0_takeText 11 = .ok (.putfield 21, 3) := by decide +kernel
theorem dX0_takeText_14 : decode cX0_takeText 14 = .ok (.aload_n 0, 1) := by decide +kernel
theorem dX0_takeText_15 : decode cX0_takeText 15 = .ok (.aload_n 1, 1) := by decide +kernel
theorem dX0_takeText_16 : decode cX0_takeText 16 = .ok (.iload_n 2, 1) := by decide +kernel
theorem dX0_takeText_17 : decode cX0_takeText 17 = .ok (.iconst 1, 1) := by decide +kernel
theorem dX0_takeText_18 : decode cX0_takeText 18 = .ok (.iadd, 1) := by decide +kernel
theorem dX0_takeText_19 : decode cX0_takeText 19 = .ok (.invokevirtual 28, 3) := by decide +kernel
theorem dX0_takeText_22 : decode cX0_takeText 22 = .ok (.bipush 48, 2) := by decide +kernel
theorem dX0_takeText_24 : decode cX0_takeText 24 = .ok (.isub, 1) := by decide +kernel
theorem dX0_takeText_25 : decode cX0_takeText 25 = .ok (.putfield 25, 3) := by decide +kernel
theorem dX0_takeText_28 : decode cX0_takeText 28 = .ok (.iconst 0, 1) := by decide +kernel
theorem dX0_takeText_29 : decode cX0_takeText 29 = .ok (.istore 4, 2) := by decide +kernel
theorem dX0_takeText_31 : decode cX0_takeText 31 = .ok (.iload 4, 2) := by decide +kernel
theorem dX0_takeText_33 : decode cX0_takeText 33 = .ok (.aload_n 0, 1) := by decide +kernel
theorem dX0_takeText_34 : decode cX0_takeText 34 = .ok (.getfield 21, 3) := by decide +kernel
theorem dX0_takeText_37 : decode cX0_takeText 37 = .ok (.if_icmp .ge 74, 3) := by decide +kernel
theorem dX0_takeText_40 : decode cX0_takeText 40 = .ok (.iload_n 2, 1) := by decide +kernel
theorem dX0_takeText_41 : decode cX0_takeText 41 = .ok (.iconst 2, 1) := by decide +kernel
theorem dX0_takeText_42 : decode cX0_takeText 42 = .ok (.iadd, 1) := by decide +kernel
theorem dX0_takeText_43 : decode cX0_takeText 43 = .ok (.iload 4, 2) := by decide +kernel
theorem dX0_takeText_45 : decode cX0_takeText 45 = .ok (.iconst 5, 1) := by decide +kernel
theorem dX0_takeText_46 : decode cX0_takeText 46 = .ok (.imul, 1) := by decide +kernel
theorem dX0_takeText_47 : decode cX0_takeText 47 = .ok (.iadd, 1) := by decide +kernel
theorem dX0_takeText_48 : decode cX0_takeText 48 = .ok (.iconst 1, 1) := by decide +kernel
theorem dX0_takeText_49 : decode cX0_takeText 49 = .ok (.iadd, 1) := by decide +kernel
theorem dX0_takeText_50 : decode cX0_takeText 50 = .ok (.istore 5, 2) := by decide +kernel
theorem dX0_takeText_52 : decode cX0_takeText 52 = .ok (.aload_n 0, 1) := by decide +kernel
theorem dX0_takeText_53 : decode cX0_takeText 53 = .ok (.getfield 9, 3) := by decide +kernel
theorem dX0_takeText_56 : decode cX0_takeText 56 = .ok (.iload 4, 2) := by decide +kernel
theorem dX0_takeText_58 : decode cX0_takeText 58 = .ok (.aload_n 1, 1) := by decide +kernel
theorem dX0_takeText_59 : decode cX0_takeText 59 = .ok (.iload 5, 2) := by decide +kernel
theorem dX0_takeText_61 : decode cX0_takeText 61 = .ok (.invokevirtual 28, 3) := by decide +kernel
theorem dX0_takeText_64 : decode cX0_takeText 64 = .ok (.invokestatic 48, 3) := by decide +kernel
theorem dX0_takeText_67 : decode cX0_takeText 67 = .ok (.iastore, 1) := by decide +kernel
theorem dX0_takeText_68 : decode cX0_takeText 68 = .ok (.iconst 0, 1) := by decide +kernel
theorem dX0_takeText_69 : decode cX0_takeText 69 = .ok (.istore 6, 2) := by decide +kernel
theorem dX0_takeText_71 : decode cX0_takeText 71 = .ok (.iload 6, 2) := by decide +kernel
theorem dX0_takeText_73 : decode cX0_takeText 73 = .ok (.iconst 3, 1) := by decide +kernel
theorem dX0_takeText_74 : decode cX0_takeText 74 = .ok (.if_icmp .ge 31, 3) := by decide +kernel
theorem dX0_takeText_77 : decode cX0_takeText 77 = .ok (.aload_n 0, 1) := by decide +kernel
theorem dX0_takeText_78 : decode cX0_takeText 78 = .ok (.iload 4, 2) := by decide +kernel
theorem dX0_takeText_80 : decode cX0_takeText 80 = .ok (.iload 6, 2) := by decide +kernel
theorem dX0_takeText_82 : decode cX0_takeText 82 = .ok (.aload_n 1, 1) := by decide +kernel
theorem dX0_takeText_83 : decode cX0_takeText 83 = .ok (.iload 5, 2) := by decide +kernel
theorem dX0_takeText_85 : decode cX0_takeText 85 = .ok (.iconst 1, 1) := by decide +kernel
theorem dX0_takeText_86 : decode cX0_takeText 86 = .ok (.iadd, 1) := by decide +kernel
theorem dX0_takeText_87 : decode cX0_takeText 87 = .ok (.iload 6, 2) := by decide +kernel
theorem dX0_takeText_89 : decode cX0_takeText 89 = .ok (.iadd, 1) := by decide +kernel
theorem dX0_takeText_90 : decode cX0_takeText 90 = .ok (.invokevirtual 28, 3) := by decide +kernel
theorem dX0_takeText_93 : decode cX0_takeText 93 = .ok (.bipush 48, 2) := by decide +kernel
theorem dX0_takeText_95 : decode cX0_takeText 95 = .ok (.isub, 1) := by decide +kernel
theorem dX0_takeText_96 : decode cX0_takeText 96 = .ok (.invokevirtual 51, 3) := by decide +kernel
theorem dX0_takeText_99 : decode cX0_takeText 99 = .ok (.iinc 6 1, 3) := by decide +kernel
theorem dX0_takeText_102 : decode cX0_takeText 102 = .ok (.goto (-31), 3) := by decide +kernel
theorem dX0_takeText_105 : decode cX0_takeText 105 = .ok (.iinc 4 1, 3) := by decide +kernel
theorem dX0_takeText_108 : decode cX0_takeText 108 = .ok (.goto (-77), 3) := by decide +kernel
theorem dX0_takeText_111 : decode cX0_takeText 111 = .ok (.return_, 1) := by decide +kernel
theorem dX0_stands_0 : decode cX0_stands 0 = .ok (.aload_n 0, 1) := by decide +kernel
theorem dX0_stands_1 : decode cX0_stands 1 = .ok (.getfield 21, 3) := by decide +kernel
theorem dX0_stands_4 : decode cX0_stands 4 = .ok (.ifCond .le 7, 3) := by decide +kernel
theorem dX0_stands_7 : decode cX0_stands 7 = .ok (.iconst 1, 1) := by decide +kernel
theorem dX0_stands_8 : decode cX0_stands 8 = .ok (.goto 4, 3) := by decide +kernel
theorem dX0_stands_11 : decode cX0_stands 11 = .ok (.iconst 0, 1) := by decide +kernel
theorem dX0_stands_12 : decode cX0_stands 12 = .ok (.ireturn, 1) := by decide +kernel
theorem dX0_howMany_0 : decode cX0_howMany 0 = .ok (.aload_n 0, 1) := by decide +kernel
theorem dX0_howMany_1 : decode cX0_howMany 1 = .ok (.getfield 21, 3) := by decide +kernel
theorem dX0_howMany_4 : decode cX0_howMany 4 = .ok (.ireturn, 1) := by decide +kernel
theorem dX0_hasPass_0 : decode cX0_hasPass 0 = .ok (.iload_n 1, 1) := by decide +kernel
theorem dX0_hasPass_1 : decode cX0_hasPass 1 = .ok (.ifCond .lt 15, 3) := by decide +kernel
theorem dX0_hasPass_4 : decode cX0_hasPass 4 = .ok (.iload_n 1, 1) := by decide +kernel
theorem dX0_hasPass_5 : decode cX0_hasPass 5 = .ok (.aload_n 0, 1) := by decide +kernel
theorem dX0_hasPass_6 : decode cX0_hasPass 6 = .ok (.getfield 21, 3) := by decide +kernel
theorem dX0_hasPass_9 : decode cX0_hasPass 9 = .ok (.if_icmp .ge 7, 3) := by decide +kernel
theorem dX0_hasPass_12 : decode cX0_hasPass 12 = .ok (.iconst 1, 1) := by decide +kernel
theorem dX0_hasPass_13 : decode cX0_hasPass 13 = .ok (.goto 4, 3) := by decide +kernel
theorem dX0_hasPass_16 : decode cX0_hasPass 16 = .ok (.iconst 0, 1) := by decide +kernel
theorem dX0_hasPass_17 : decode cX0_hasPass 17 = .ok (.ireturn, 1) := by decide +kernel
theorem dX0_allPasses_0 : decode cX0_allPasses 0 = .ok (.iconst 1, 1) := by decide +kernel
theorem dX0_allPasses_1 : decode cX0_allPasses 1 = .ok (.aload_n 0, 1) := by decide +kernel
theorem dX0_allPasses_2 : decode cX0_allPasses 2 = .ok (.getfield 21, 3) := by decide +kernel
theorem dX0_allPasses_5 : decode cX0_allPasses 5 = .ok (.ishl, 1) := by decide +kernel
theorem dX0_allPasses_6 : decode cX0_allPasses 6 = .ok (.iconst 1, 1) := by decide +kernel
theorem dX0_allPasses_7 : decode cX0_allPasses 7 = .ok (.isub, 1) := by decide +kernel
theorem dX0_allPasses_8 : decode cX0_allPasses 8 = .ok (.ireturn, 1) := by decide +kernel
set_option maxRecDepth 20000 in
theorem ggX0_isSet_X0_allPasses : GoodIn wsX0_isSet wsX0_allPasses := goodIn_r _ [5, 6, 7, 8, 9, 10, 11] (by decide +kernel) (by decide +kernel)
set_option maxRecDepth 20000 in
theorem gX0_isSet_X0_allPasses : GoodIn wsX0_isSet (wsV RX0 55 RX0 yX0_allPasses wsX0_allPasses) := goodIn_app (goodIn_of _ (by decide +kernel)) ggX0_isSet_X0_allPasses
theorem dX0_isSet_0 : decode cX0_isSet 0 = .ok (.iload_n 1, 1) := by decide +kernel
theorem dX0_isSet_1 : decode cX0_isSet 1 = .ok (.ifCond .lt 15, 3) := by decide +kernel
theorem dX0_isSet_4 : decode cX0_isSet 4 = .ok (.iload_n 1, 1) := by decide +kernel
theorem dX0_isSet_5 : decode cX0_isSet 5 = .ok (.aload_n 0, 1) := by decide +kernel
theorem dX0_isSet_6 : decode cX0_isSet 6 = .ok (.invokevirtual 55, 3) := by decide +kernel
theorem dX0_isSet_9 : decode cX0_isSet 9 = .ok (.if_icmp .gt 7, 3) := by decide +kernel
theorem dX0_isSet_12 : decode cX0_isSet 12 = .ok (.iconst 1, 1) := by decide +kernel
theorem dX0_isSet_13 : decode cX0_isSet 13 = .ok (.goto 4, 3) := by decide +kernel
theorem dX0_isSet_16 : decode cX0_isSet 16 = .ok (.iconst 0, 1) := by decide +kernel
theorem dX0_isSet_17 : decode cX0_isSet 17 = .ok (.ireturn, 1) := by decide +kernel
theorem dX0_slackNow_0 : decode cX0_slackNow 0 = .ok (.aload_n 0, 1) := by decide +kernel
theorem dX0_slackNow_1 : decode cX0_slackNow 1 = .ok (.getfield 25, 3) := by decide +kernel
theorem dX0_slackNow_4 : decode cX0_slackNow 4 = .ok (.ireturn, 1) := by decide +kernel
theorem dX0_setSlack_0 : decode cX0_setSlack 0 = .ok (.aload_n 0, 1) := by decide +kernel
theorem dX0_setSlack_1 : decode cX0_setSlack 1 = .ok (.iload_n 1, 1) := by decide +kernel
theorem dX0_setSlack_2 : decode cX0_setSlack 2 = .ok (.putfield 25, 3) := by decide +kernel
theorem dX0_setSlack_5 : decode cX0_setSlack 5 = .ok (.return_, 1) := by decide +kernel
set_option maxRecDepth 20000 in
theorem ggX0_kindOf_X0_hasPass : GoodIn wsX0_kindOf wsX0_hasPass := goodIn_r _ [6, 7, 8, 9, 10, 11, 12] (by decide +kernel) (by decide +kernel)
set_option maxRecDepth 20000 in
theorem gX0_kindOf_X0_hasPass : GoodIn wsX0_kindOf (wsV RX0 59 RX0 yX0_hasPass wsX0_hasPass) := goodIn_app (goodIn_of _ (by decide +kernel)) ggX0_kindOf_X0_hasPass
theorem dX0_kindOf_0 : decode cX0_kindOf 0 = .ok (.aload_n 0, 1) := by decide +kernel
theorem dX0_kindOf_1 : decode cX0_kindOf 1 = .ok (.iload_n 1, 1) := by decide +kernel
theorem dX0_kindOf_2 : decode cX0_kindOf 2 = .ok (.invokevirtual 59, 3) := by decide +kernel
theorem dX0_kindOf_5 : decode cX0_kindOf 5 = .ok (.ifCond .eq 12, 3) := by decide +kernel
theorem dX0_kindOf_8 : decode cX0_kindOf 8 = .ok (.aload_n 0, 1) := by decide +kernel
theorem dX0_kindOf_9 : decode cX0_kindOf 9 = .ok (.getfield 9, 3) := by decide +kernel
theorem dX0_kindOf_12 : decode cX0_kindOf 12 = .ok (.iload_n 1, 1) := by decide +kernel
theorem dX0_kindOf_13 : decode cX0_kindOf 13 = .ok (.iaload, 1) := by decide +kernel
theorem dX0_kindOf_14 : decode cX0_kindOf 14 = .ok (.goto 4, 3) := by decide +kernel
theorem dX0_kindOf_17 : decode cX0_kindOf 17 = .ok (.iconst 0, 1) := by decide +kernel
theorem dX0_kindOf_18 : decode cX0_kindOf 18 = .ok (.ireturn, 1) := by decide +kernel
set_option maxRecDepth 20000 in
theorem ggX0_setKind_X0_hasPass : GoodIn wsX0_setKind wsX0_hasPass := goodIn_r _ [6, 7, 8, 9, 10, 11, 12] (by decide +kernel) (by decide +kernel)
set_option maxRecDepth 20000 in
theorem gX0_setKind_X0_hasPass : GoodIn wsX0_setKind (wsV RX0 59 RX0 yX0_hasPass wsX0_hasPass) := goodIn_app (goodIn_of _ (by decide +kernel)) ggX0_setKind_X0_hasPass
theorem dX0_setKind_0 : decode cX0_setKind 0 = .ok (.aload_n 0, 1) := by decide +kernel
theorem dX0_setKind_1 : decode cX0_setKind 1 = .ok (.iload_n 1, 1) := by decide +kernel
theorem dX0_setKind_2 : decode cX0_setKind 2 = .ok (.invokevirtual 59, 3) := by decide +kernel
theorem dX0_setKind_5 : decode cX0_setKind 5 = .ok (.ifCond .eq 10, 3) := by decide +kernel
theorem dX0_setKind_8 : decode cX0_setKind 8 = .ok (.aload_n 0, 1) := by decide +kernel
theorem dX0_setKind_9 : decode cX0_setKind 9 = .ok (.getfield 9, 3) := by decide +kernel
theorem dX0_setKind_12 : decode cX0_setKind 12 = .ok (.iload_n 1, 1) := by decide +kernel
theorem dX0_setKind_13 : decode cX0_setKind 13 = .ok (.iload_n 2, 1) := by decide +kernel
theorem dX0_setKind_14 : decode cX0_setKind 14 = .ok (.iastore, 1) := by decide +kernel
theorem dX0_setKind_15 : decode cX0_setKind 15 = .ok (.return_, 1) := by decide +kernel
set_option maxRecDepth 20000 in
theorem ggX0_heightOf_X0_hasPass : GoodIn wsX0_heightOf wsX0_hasPass := goodIn_r _ [6, 7, 8, 9, 10, 11, 12] (by decide +kernel) (by decide +kernel)
set_option maxRecDepth 20000 in
theorem gX0_heightOf_X0_hasPass : GoodIn wsX0_heightOf (wsV RX0 59 RX0 yX0_hasPass wsX0_hasPass) := goodIn_app (goodIn_of _ (by decide +kernel)) ggX0_heightOf_X0_hasPass
theorem dX0_heightOf_0 : decode cX0_heightOf 0 = .ok (.aload_n 0, 1) := by decide +kernel
theorem dX0_heightOf_1 : decode cX0_heightOf 1 = .ok (.iload_n 1, 1) := by decide +kernel
theorem dX0_heightOf_2 : decode cX0_heightOf 2 = .ok (.invokevirtual 59, 3) := by decide +kernel
theorem dX0_heightOf_5 : decode cX0_heightOf 5 = .ok (.ifCond .eq 25, 3) := by decide +kernel
theorem dX0_heightOf_8 : decode cX0_heightOf 8 = .ok (.iload_n 2, 1) := by decide +kernel
theorem dX0_heightOf_9 : decode cX0_heightOf 9 = .ok (.ifCond .lt 21, 3) := by decide +kernel
theorem dX0_heightOf_12 : decode cX0_heightOf 12 = .ok (.iload_n 2, 1) := by decide +kernel
theorem dX0_heightOf_13 : decode cX0_heightOf 13 = .ok (.iconst 3, 1) := by decide +kernel
theorem dX0_heightOf_14 : decode cX0_heightOf 14 = .ok (.if_icmp .ge 16, 3) := by decide +kernel
theorem dX0_heightOf_17 : decode cX0_heightOf 17 = .ok (.aload_n 0, 1) := by decide +kernel
theorem dX0_heightOf_18 : decode cX0_heightOf 18 = .ok (.getfield 15, 3) := by decide +kernel
theorem dX0_heightOf_21 : decode cX0_heightOf 21 = .ok (.iload_n 1, 1) := by decide +kernel
theorem dX0_heightOf_22 : decode cX0_heightOf 22 = .ok (.iconst 3, 1) := by decide +kernel
theorem dX0_heightOf_23 : decode cX0_heightOf 23 = .ok (.imul, 1) := by decide +kernel
theorem dX0_heightOf_24 : decode cX0_heightOf 24 = .ok (.iload_n 2, 1) := by decide +kernel
theorem dX0_heightOf_25 : decode cX0_heightOf 25 = .ok (.iadd, 1) := by decide +kernel
theorem dX0_heightOf_26 : decode cX0_heightOf 26 = .ok (.iaload, 1) := by decide +kernel
theorem dX0_heightOf_27 : decode cX0_heightOf 27 = .ok (.goto 4, 3) := by decide +kernel
theorem dX0_heightOf_30 : decode cX0_heightOf 30 = .ok (.iconst 0, 1) := by decide +kernel
theorem dX0_heightOf_31 : decode cX0_heightOf 31 = .ok (.ireturn, 1) := by decide +kernel
set_option maxRecDepth 20000 in
theorem ggX0_setHeight_X0_hasPass : GoodIn wsX0_setHeight wsX0_hasPass := goodIn_r _ [6, 7, 8, 9, 10, 11, 12] (by decide +kernel) (by decide +kernel)
set_option maxRecDepth 20000 in
theorem gX0_setHeight_X0_hasPass : GoodIn wsX0_setHeight (wsV RX0 59 RX0 yX0_hasPass wsX0_hasPass) := goodIn_app (goodIn_of _ (by decide +kernel)) ggX0_setHeight_X0_hasPass
theorem dX0_setHeight_0 : decode cX0_setHeight 0 = .ok (.aload_n 0, 1) := by decide +kernel
theorem dX0_setHeight_1 : decode cX0_setHeight 1 = .ok (.iload_n 1, 1) := by decide +kernel
theorem dX0_setHeight_2 : decode cX0_setHeight 2 = .ok (.invokevirtual 59, 3) := by decide +kernel
theorem dX0_setHeight_5 : decode cX0_setHeight 5 = .ok (.ifCond .eq 23, 3) := by decide +kernel
theorem dX0_setHeight_8 : decode cX0_setHeight 8 = .ok (.iload_n 2, 1) := by decide +kernel
theorem dX0_setHeight_9 : decode cX0_setHeight 9 = .ok (.ifCond .lt 19, 3) := by decide +kernel
theorem dX0_setHeight_12 : decode cX0_setHeight 12 = .ok (.iload_n 2, 1) := by decide +kernel
theorem dX0_setHeight_13 : decode cX0_setHeight 13 = .ok (.iconst 3, 1) := by decide +kernel
theorem dX0_setHeight_14 : decode cX0_setHeight 14 = .ok (.if_icmp .ge 14, 3) := by decide +kernel
theorem dX0_setHeight_17 : decode cX0_setHeight 17 = .ok (.aload_n 0, 1) := by decide +kernel
theorem dX0_setHeight_18 : decode cX0_setHeight 18 = .ok (.getfield 15, 3) := by decide +kernel
theorem dX0_setHeight_21 : decode cX0_setHeight 21 = .ok (.iload_n 1, 1) := by decide +kernel
theorem dX0_setHeight_22 : decode cX0_setHeight 22 = .ok (.iconst 3, 1) := by decide +kernel
theorem dX0_setHeight_23 : decode cX0_setHeight 23 = .ok (.imul, 1) := by decide +kernel
theorem dX0_setHeight_24 : decode cX0_setHeight 24 = .ok (.iload_n 2, 1) := by decide +kernel
theorem dX0_setHeight_25 : decode cX0_setHeight 25 = .ok (.iadd, 1) := by decide +kernel
theorem dX0_setHeight_26 : decode cX0_setHeight 26 = .ok (.iload_n 3, 1) := by decide +kernel
theorem dX0_setHeight_27 : decode cX0_setHeight 27 = .ok (.iastore, 1) := by decide +kernel
theorem dX0_setHeight_28 : decode cX0_setHeight 28 = .ok (.return_, 1) := by decide +kernel
theorem dX0_wear_0 : decode cX0_wear 0 = .ok (.iload_n 0, 1) := by decide +kernel
theorem dX0_wear_1 : decode cX0_wear 1 = .ok (.lookupswitch 35 #[(1, 31), (2, 27)], 27) := by decide +kernel
theorem dX0_wear_28 : decode cX0_wear 28 = .ok (.iconst 2, 1) := by decide +kernel
theorem dX0_wear_29 : decode cX0_wear 29 = .ok (.iload_n 1, 1) := by decide +kernel
theorem dX0_wear_30 : decode cX0_wear 30 = .ok (.imul, 1) := by decide +kernel
theorem dX0_wear_31 : decode cX0_wear 31 = .ok (.ireturn, 1) := by decide +kernel
theorem dX0_wear_32 : decode cX0_wear 32 = .ok (.iload_n 1, 1) := by decide +kernel
theorem dX0_wear_33 : decode cX0_wear 33 = .ok (.iconst 1, 1) := by decide +kernel
theorem dX0_wear_34 : decode cX0_wear 34 = .ok (.iadd, 1) := by decide +kernel
theorem dX0_wear_35 : decode cX0_wear 35 = .ok (.ireturn, 1) := by decide +kernel
theorem dX0_wear_36 : decode cX0_wear 36 = .ok (.iload_n 1, 1) := by decide +kernel
theorem dX0_wear_37 : decode cX0_wear 37 = .ok (.ireturn, 1) := by decide +kernel
set_option maxRecDepth 20000 in
theorem ggX0_lowerHeight_X0_heightOf : GoodIn wsX0_lowerHeight wsX0_heightOf := goodIn_r _ [9, 10, 11, 12, 13, 8, 14, 15, 24, 25, 26, 27, 28] (by decide +kernel) (by decide +kernel)
set_option maxRecDepth 20000 in
theorem gX0_lowerHeight_X0_heightOf : GoodIn wsX0_lowerHeight (wsV RX0 62 RX0 yX0_heightOf wsX0_heightOf) := goodIn_app (goodIn_of _ (by decide +kernel)) ggX0_lowerHeight_X0_heightOf
set_option maxRecDepth 20000 in
theorem ggX0_lowerHeight_X0_kindOf : GoodIn wsX0_lowerHeight wsX0_kindOf := goodIn_r _ [19, 20, 11, 12, 13, 8, 14, 15, 24, 25, 26, 27, 28] (by decide +kernel) (by decide +kernel)
set_option maxRecDepth 20000 in
theorem gX0_lowerHeight_X0_kindOf : GoodIn wsX0_lowerHeight (wsV RX0 65 RX0 yX0_kindOf wsX0_kindOf) := goodIn_app (goodIn_of _ (by decide +kernel)) ggX0_lowerHeight_X0_kindOf
set_option maxRecDepth 20000 in
theorem ggX0_lowerHeight_X0_wear : GoodIn wsX0_lowerHeight wsX0_wear := goodIn_r _ [23] (by decide +kernel) (by decide +kernel)
set_option maxRecDepth 20000 in
theorem gX0_lowerHeight_X0_wear : GoodIn wsX0_lowerHeight (va_wsS RX0 68 yX0_wear wsX0_wear) := goodIn_app (goodIn_of _ (by decide +kernel)) ggX0_lowerHeight_X0_wear
theorem dX0_lowerHeight_0 : decode cX0_lowerHeight 0 = .ok (.aload_n 0, 1) := by decide +kernel
theorem dX0_lowerHeight_1 : decode cX0_lowerHeight 1 = .ok (.iload_n 1, 1) := by decide +kernel
theorem dX0_lowerHeight_2 : decode cX0_lowerHeight 2 = .ok (.iload_n 2, 1) := by decide +kernel
theorem dX0_lowerHeight_3 : decode cX0_lowerHeight 3 = .ok (.invokevirtual 62, 3) := by decide +kernel
theorem dX0_lowerHeight_6 : decode cX0_lowerHeight 6 = .ok (.aload_n 0, 1) := by decide +kernel
theorem dX0_lowerHeight_7 : decode cX0_lowerHeight 7 = .ok (.iload_n 1, 1) := by decide +kernel
theorem dX0_lowerHeight_8 : decode cX0_lowerHeight 8 = .ok (.invokevirtual 65, 3) := by decide +kernel
theorem dX0_lowerHeight_11 : decode cX0_lowerHeight 11 = .ok (.iload_n 3, 1) := by decide +kernel
theorem dX0_lowerHeight_12 : decode cX0_lowerHeight 12 = .ok (.invokestatic 68, 3) := by decide +kernel
theorem dX0_lowerHeight_15 : decode cX0_lowerHeight 15 = .ok (.isub, 1) := by decide +kernel
theorem dX0_lowerHeight_16 : decode cX0_lowerHeight 16 = .ok (.iconst 0, 1) := by decide +kernel
theorem dX0_lowerHeight_17 : decode cX0_lowerHeight 17 = .ok (.invokestatic 71, 3) := by decide +kernel
theorem dX0_lowerHeight_20 : decode cX0_lowerHeight 20 = .ok (.ireturn, 1) := by decide +kernel
set_option maxRecDepth 20000 in
theorem ggX0_apart_X0_kindOf : GoodIn wsX0_apart wsX0_kindOf := goodIn_r _ [12, 13, 14, 15, 16, 11, 17, 18, 27, 28, 29, 30, 31] (by decide +kernel) (by decide +kernel)
set_option maxRecDepth 20000 in
theorem gX0_apart_X0_kindOf : GoodIn wsX0_apart (wsV RX0 65 RX0 yX0_kindOf wsX0_kindOf) := goodIn_app (goodIn_of _ (by decide +kernel)) ggX0_apart_X0_kindOf
set_option maxRecDepth 20000 in
theorem ggX0_apart_X0_wear : GoodIn wsX0_apart wsX0_wear := goodIn_r _ [21] (by decide +kernel) (by decide +kernel)
set_option maxRecDepth 20000 in
theorem gX0_apart_X0_wear : GoodIn wsX0_apart (va_wsS RX0 68 yX0_wear wsX0_wear) := goodIn_app (goodIn_of _ (by decide +kernel)) ggX0_apart_X0_wear
set_option maxRecDepth 20000 in
theorem ggX0_apart_X0_heightOf : GoodIn wsX0_apart wsX0_heightOf := goodIn_r _ [25, 26, 14, 15, 16, 11, 17, 18, 27, 28, 29, 30, 31] (by decide +kernel) (by decide +kernel)
set_option maxRecDepth 20000 in
theorem gX0_apart_X0_heightOf : GoodIn wsX0_apart (wsV RX0 62 RX0 yX0_heightOf wsX0_heightOf) := goodIn_app (goodIn_of _ (by decide +kernel)) ggX0_apart_X0_heightOf
theorem dX0_apart_0 : decode cX0_apart 0 = .ok (.aload_n 0, 1) := by decide +kernel
theorem dX0_apart_1 : decode cX0_apart 1 = .ok (.iload_n 2, 1) := by decide +kernel
theorem dX0_apart_2 : decode cX0_apart 2 = .ok (.invokevirtual 65, 3) := by decide +kernel
theorem dX0_apart_5 : decode cX0_apart 5 = .ok (.iload_n 3, 1) := by decide +kernel
theorem dX0_apart_6 : decode cX0_apart 6 = .ok (.invokestatic 68, 3) := by decide +kernel
theorem dX0_apart_9 : decode cX0_apart 9 = .ok (.istore 4, 2) := by decide +kernel
theorem dX0_apart_11 : decode cX0_apart 11 = .ok (.iconst 0, 1) := by decide +kernel
theorem dX0_apart_12 : decode cX0_apart 12 = .ok (.istore 5, 2) := by decide +kernel
theorem dX0_apart_14 : decode cX0_apart 14 = .ok (.iconst 0, 1) := by decide +kernel
theorem dX0_apart_15 : decode cX0_apart 15 = .ok (.istore 6, 2) := by decide +kernel
theorem dX0_apart_17 : decode cX0_apart 17 = .ok (.iload 6, 2) := by decide +kernel
theorem dX0_apart_19 : decode cX0_apart 19 = .ok (.iconst 3, 1) := by decide +kernel
theorem dX0_apart_20 : decode cX0_apart 20 = .ok (.if_icmp .ge 43, 3) := by decide +kernel
theorem dX0_apart_23 : decode cX0_apart 23 = .ok (.aload_n 0, 1) := by decide +kernel
theorem dX0_apart_24 : decode cX0_apart 24 = .ok (.iload_n 2, 1) := by decide +kernel
theorem dX0_apart_25 : decode cX0_apart 25 = .ok (.iload 6, 2) := by decide +kernel
theorem dX0_apart_27 : decode cX0_apart 27 = .ok (.invokevirtual 62, 3) := by decide +kernel
theorem dX0_apart_30 : decode cX0_apart 30 = .ok (.iload 4, 2) := by decide +kernel
theorem dX0_apart_32 : decode cX0_apart 32 = .ok (.isub, 1) := by decide +kernel
theorem dX0_apart_33 : decode cX0_apart 33 = .ok (.iconst 0, 1) := by decide +kernel
theorem dX0_apart_34 : decode cX0_apart 34 = .ok (.invokestatic 71, 3) := by decide +kernel
theorem dX0_apart_37 : decode cX0_apart 37 = .ok (.istore 7, 2) := by decide +kernel
theorem dX0_apart_39 : decode cX0_apart 39 = .ok (.iload 5, 2) := by decide +kernel
theorem dX0_apart_41 : decode cX0_apart 41 = .ok (.aload_n 0, 1) := by decide +kernel
theorem dX0_apart_42 : decode cX0_apart 42 = .ok (.iload_n 1, 1) := by decide +kernel
theorem dX0_apart_43 : decode cX0_apart 43 = .ok (.iload 6, 2) := by decide +kernel
theorem dX0_apart_45 : decode cX0_apart 45 = .ok (.invokevirtual 62, 3) := by decide +kernel
theorem dX0_apart_48 : decode cX0_apart 48 = .ok (.iload 7, 2) := by decide +kernel
theorem dX0_apart_50 : decode cX0_apart 50 = .ok (.isub, 1) := by decide +kernel
theorem dX0_apart_51 : decode cX0_apart 51 = .ok (.invokestatic 74, 3) := by decide +kernel
theorem dX0_apart_54 : decode cX0_apart 54 = .ok (.iadd, 1) := by decide +kernel
theorem dX0_apart_55 : decode cX0_apart 55 = .ok (.istore 5, 2) := by decide +kernel
theorem dX0_apart_57 : decode cX0_apart 57 = .ok (.iinc 6 1, 3) := by decide +kernel
theorem dX0_apart_60 : decode cX0_apart 60 = .ok (.goto (-43), 3) := by decide +kernel
theorem dX0_apart_63 : decode cX0_apart 63 = .ok (.iload 5, 2) := by decide +kernel
theorem dX0_apart_65 : decode cX0_apart 65 = .ok (.ireturn, 1) := by decide +kernel
set_option maxRecDepth 20000 in
theorem ggX0_doFit_X0_apart : GoodIn wsX0_doFit wsX0_apart := goodIn_r _ [6, 7, 8, 9, 10, 11, 12, 13, 14, 15, 16, 5, 17, 18, 19, 20, 21, 22, 23, 24, 25, 26, 27, 28, 29, 30, 31, 32, 33, 34, 35, 36] (by decide +kernel) (by decide +kernel)
set_option maxRecDepth 20000 in
theorem gX0_doFit_X0_apart : GoodIn wsX0_doFit (wsV RX0 77 RX0 yX0_apart wsX0_apart) := goodIn_app (goodIn_of _ (by decide +kernel)) ggX0_doFit_X0_apart
theorem dX0_doFit_0 : decode cX0_doFit 0 = .ok (.aload_n 0, 1) := by decide +kernel
theorem dX0_doFit_1 : decode cX0_doFit 1 = .ok (.iload_n 1, 1) := by decide +kernel
theorem dX0_doFit_2 : decode cX0_doFit 2 = .ok (.iload_n 2, 1) := by decide +kernel
theorem dX0_doFit_3 : decode cX0_doFit 3 = .ok (.iload_n 3, 1) := by decide +kernel
theorem dX0_doFit_4 : decode cX0_doFit 4 = .ok (.invokevirtual 77, 3) := by decide +kernel
theorem dX0_doFit_7 : decode cX0_doFit 7 = .ok (.aload_n 0, 1) := by decide +kernel
theorem dX0_doFit_8 : decode cX0_doFit 8 = .ok (.getfield 25, 3) := by decide +kernel
theorem dX0_doFit_11 : decode cX0_doFit 11 = .ok (.if_icmp .gt 7, 3) := by decide +kernel
theorem dX0_doFit_14 : decode cX0_doFit 14 = .ok (.iconst 1, 1) := by decide +kernel
theorem dX0_doFit_15 : decode cX0_doFit 15 = .ok (.goto 4, 3) := by decide +kernel
theorem dX0_doFit_18 : decode cX0_doFit 18 = .ok (.iconst 0, 1) := by decide +kernel
theorem dX0_doFit_19 : decode cX0_doFit 19 = .ok (.ireturn, 1) := by decide +kernel
set_option maxRecDepth 20000 in
theorem ggX0_fitting_X0_apart : GoodIn wsX0_fitting wsX0_apart := goodIn_r _ [7, 8, 9, 10, 11, 12, 13, 14, 15, 16, 17, 6, 18, 19, 20, 21, 22, 23, 1, 24, 25, 26, 27, 28, 29, 30, 31, 35, 36, 37, 38, 39] (by decide +kernel) (by decide +kernel)
set_option maxRecDepth 20000 in
theorem gX0_fitting_X0_apart : GoodIn wsX0_fitting (wsV RX0 77 RX0 yX0_apart wsX0_apart) := goodIn_app (goodIn_of _ (by decide +kernel)) ggX0_fitting_X0_apart
set_option maxRecDepth 20000 in
theorem ggX0_fitting_X4_bitIf : GoodIn wsX0_fitting wsX4_bitIf := goodIn_r _ [34] (by decide +kernel) (by decide +kernel)
set_option maxRecDepth 20000 in
theorem gX0_fitting_X4_bitIf_n81 : GoodIn wsX0_fitting (wsX4_bitIf) := ggX0_fitting_X4_bitIf
theorem dX0_fitting_0 : decode cX0_fitting 0 = .ok (.iconst 0, 1) := by decide +kernel
theorem dX0_fitting_1 : decode cX0_fitting 1 = .ok (.istore_n 3, 1) := by decide +kernel
theorem dX0_fitting_2 : decode cX0_fitting 2 = .ok (.iconst 0, 1) := by decide +kernel
theorem dX0_fitting_3 : decode cX0_fitting 3 = .ok (.istore 4, 2) := by decide +kernel
theorem dX0_fitting_5 : decode cX0_fitting 5 = .ok (.iload 4, 2) := by decide +kernel
theorem dX0_fitting_7 : decode cX0_fitting 7 = .ok (.aload_n 0, 1) := by decide +kernel
theorem dX0_fitting_8 : decode cX0_fitting 8 = .ok (.getfield 21, 3) := by decide +kernel
theorem dX0_fitting_11 : decode cX0_fitting 11 = .ok (.if_icmp .ge 37, 3) := by decide +kernel
theorem dX0_fitting_14 : decode cX0_fitting 14 = .ok (.iload_n 3, 1) := by decide +kernel
theorem dX0_fitting_15 : decode cX0_fitting 15 = .ok (.aload_n 0, 1) := by decide +kernel
theorem dX0_fitting_16 : decode cX0_fitting 16 = .ok (.iload 4, 2) := by decide +kernel
theorem dX0_fitting_18 : decode cX0_fitting 18 = .ok (.iload_n 1, 1) := by decide +kernel
theorem dX0_fitting_19 : decode cX0_fitting 19 = .ok (.iload_n 2, 1) := by decide +kernel
theorem dX0_fitting_20 : decode cX0_fitting 20 = .ok (.invokevirtual 77, 3) := by decide +kernel
theorem dX0_fitting_23 : decode cX0_fitting 23 = .ok (.aload_n 0, 1) := by decide +kernel
theorem dX0_fitting_24 : decode cX0_fitting 24 = .ok (.getfield 25, 3) := by decide +kernel
theorem dX0_fitting_27 : decode cX0_fitting 27 = .ok (.if_icmp .gt 7, 3) := by decide +kernel
theorem dX0_fitting_30 : decode cX0_fitting 30 = .ok (.iconst 1, 1) := by decide +kernel
theorem dX0_fitting_31 : decode cX0_fitting 31 = .ok (.goto 4, 3) := by decide +kernel
theorem dX0_fitting_34 : decode cX0_fitting 34 = .ok (.iconst 0, 1) := by decide +kernel
theorem dX0_fitting_35 : decode cX0_fitting 35 = .ok (.iload 4, 2) := by decide +kernel
theorem dX0_fitting_37 : decode cX0_fitting 37 = .ok (.invokestatic 81, 3) := by decide +kernel
theorem dX0_fitting_40 : decode cX0_fitting 40 = .ok (.ior, 1) := by decide +kernel
theorem dX0_fitting_41 : decode cX0_fitting 41 = .ok (.istore_n 3, 1) := by decide +kernel
theorem dX0_fitting_42 : decode cX0_fitting 42 = .ok (.iinc 4 1, 3) := by decide +kernel
theorem dX0_fitting_45 : decode cX0_fitting 45 = .ok (.goto (-40), 3) := by decide +kernel
theorem dX0_fitting_48 : decode cX0_fitting 48 = .ok (.iload_n 3, 1) := by decide +kernel
theorem dX0_fitting_49 : decode cX0_fitting 49 = .ok (.ireturn, 1) := by decide +kernel
set_option maxRecDepth 20000 in
theorem ggX0_closestFitting_X0_apart : GoodIn wsX0_closestFitting wsX0_apart := goodIn_r _ [7, 8, 9, 10, 11, 12, 13, 14, 15, 16, 17, 6, 18, 19, 20, 21, 22, 23, 2, 24, 25, 26, 27, 28, 29, 30, 31, 32, 33, 34, 35, 36] (by decide +kernel) (by decide +kernel)
set_option maxRecDepth 20000 in
theorem gX0_closestFitting_X0_apart : GoodIn wsX0_closestFitting (wsV RX0 77 RX0 yX0_apart wsX0_apart) := goodIn_app (goodIn_of _ (by decide +kernel)) ggX0_closestFitting_X0_apart
theorem dX0_closestFitting_0 : decode cX0_closestFitting 0 = .ok (.bipush (-9), 2) := by decide +kernel
theorem dX0_closestFitting_2 : decode cX0_closestFitting 2 = .ok (.istore_n 3, 1) := by decide +kernel
theorem dX0_closestFitting_3 : decode cX0_closestFitting 3 = .ok (.aload_n 0, 1) := by decide +kernel
theorem dX0_closestFitting_4 : decode cX0_closestFitting 4 = .ok (.getfield 25, 3) := by decide +kernel
theorem dX0_closestFitting_7 : decode cX0_closestFitting 7 = .ok (.iconst 1, 1) := by decide +kernel
theorem dX0_closestFitting_8 : decode cX0_closestFitting 8 = .ok (.iadd, 1) := by decide +kernel
theorem dX0_closestFitting_9 : decode cX0_closestFitting 9 = .ok (.istore 4, 2) := by decide +kernel
theorem dX0_closestFitting_11 : decode cX0_closestFitting 11 = .ok (.iconst 0, 1) := by decide +kernel
theorem dX0_closestFitting_12 : decode cX0_closestFitting 12 = .ok (.istore 5, 2) := by decide +kernel
theorem dX0_closestFitting_14 : decode cX0_closestFitting 14 = .ok (.iload 5, 2) := by decide +kernel
theorem dX0_closestFitting_16 : decode cX0_closestFitting 16 = .ok (.aload_n 0, 1) := by decide +kernel
theorem dX0_closestFitting_17 : decode cX0_closestFitting 17 = .ok (.getfield 21, 3) := by decide +kernel
theorem dX0_closestFitting_20 : decode cX0_closestFitting 20 = .ok (.if_icmp .ge 33, 3) := by decide +kernel
theorem dX0_closestFitting_23 : decode cX0_closestFitting 23 = .ok (.aload_n 0, 1) := by decide +kernel
theorem dX0_closestFitting_24 : decode cX0_closestFitting 24 = .ok (.iload 5, 2) := by decide +kernel
theorem dX0_closestFitting_26 : decode cX0_closestFitting 26 = .ok (.iload_n 1, 1) := by decide +kernel
theorem dX0_closestFitting_27 : decode cX0_closestFitting 27 = .ok (.iload_n 2, 1) := by decide +kernel
theorem dX0_closestFitting_28 : decode cX0_closestFitting 28 = .ok (.invokevirtual 77, 3) := by decide +kernel
theorem dX0_closestFitting_31 : decode cX0_closestFitting 31 = .ok (.istore 6, 2) := by decide +kernel
theorem dX0_closestFitting_33 : decode cX0_closestFitting 33 = .ok (.iload 6, 2) := by decide +kernel
theorem dX0_closestFitting_35 : decode cX0_closestFitting 35 = .ok (.iload 4, 2) := by decide +kernel
theorem dX0_closestFitting_37 : decode cX0_closestFitting 37 = .ok (.if_icmp .ge 10, 3) := by decide +kernel
theorem dX0_closestFitting_40 : decode cX0_closestFitting 40 = .ok (.iload 5, 2) := by decide +kernel
theorem dX0_closestFitting_42 : decode cX0_closestFitting 42 = .ok (.istore_n 3, 1) := by decide +kernel
theorem dX0_closestFitting_43 : decode cX0_closestFitting 43 = .ok (.iload 6, 2) := by decide +kernel
theorem dX0_closestFitting_45 : decode cX0_closestFitting 45 = .ok (.istore 4, 2) := by decide +kernel
theorem dX0_closestFitting_47 : decode cX0_closestFitting 47 = .ok (.iinc 5 1, 3) := by decide +kernel
theorem dX0_closestFitting_50 : decode cX0_closestFitting 50 = .ok (.goto (-36), 3) := by decide +kernel
theorem dX0_closestFitting_53 : decode cX0_closestFitting 53 = .ok (.iload_n 3, 1) := by decide +kernel
theorem dX0_closestFitting_54 : decode cX0_closestFitting 54 = .ok (.ireturn, 1) := by decide +kernel
set_option maxRecDepth 20000 in
theorem ggX0_lastGood_X0_doFit : GoodIn wsX0_lastGood wsX0_doFit := goodIn_r _ [5, 6, 7, 8, 9, 4, 10, 11, 12, 13, 14, 15, 16, 17, 18, 19, 20, 21, 22, 23, 24, 25, 26, 27, 28, 29, 30, 31, 32, 33, 34, 35, 36, 37, 38, 39, 40] (by decide +kernel) (by decide +kernel)
set_option maxRecDepth 20000 in
theorem gX0_lastGood_X0_doFit : GoodIn wsX0_lastGood (wsV RX0 85 RX0 yX0_doFit wsX0_doFit) := goodIn_app (goodIn_of _ (by decide +kernel)) ggX0_lastGood_X0_doFit
theorem dX0_lastGood_0 : decode cX0_lastGood 0 = .ok (.bipush 9, 2) := by decide +kernel
theorem dX0_lastGood_2 : decode cX0_lastGood 2 = .ok (.istore_n 2, 1) := by decide +kernel
theorem dX0_lastGood_3 : decode cX0_lastGood 3 = .ok (.iload_n 2, 1) := by decide +kernel
theorem dX0_lastGood_4 : decode cX0_lastGood 4 = .ok (.ifCond .lt 21, 3) := by decide +kernel
theorem dX0_lastGood_7 : decode cX0_lastGood 7 = .ok (.aload_n 0, 1) := by decide +kernel
theorem dX0_lastGood_8 : decode cX0_lastGood 8 = .ok (.iload_n 1, 1) := by decide +kernel
theorem dX0_lastGood_9 : decode cX0_lastGood 9 = .ok (.iload_n 1, 1) := by decide +kernel
theorem dX0_lastGood_10 : decode cX0_lastGood 10 = .ok (.iload_n 2, 1) := by decide +kernel
theorem dX0_lastGood_11 : decode cX0_lastGood 11 = .ok (.invokevirtual 85, 3) := by decide +kernel
theorem dX0_lastGood_14 : decode cX0_lastGood 14 = .ok (.ifCond .eq 5, 3) := by decide +kernel
theorem dX0_lastGood_17 : decode cX0_lastGood 17 = .ok (.iload_n 2, 1) := by decide +kernel
theorem dX0_lastGood_18 : decode cX0_lastGood 18 = .ok (.ireturn, 1) := by decide +kernel
theorem dX0_lastGood_19 : decode cX0_lastGood 19 = .ok (.iinc 2 (-1), 3) := by decide +kernel
theorem dX0_lastGood_22 : decode cX0_lastGood 22 = .ok (.goto (-19), 3) := by decide +kernel
theorem dX0_lastGood_25 : decode cX0_lastGood 25 = .ok (.bipush (-9), 2) := by decide +kernel
theorem dX0_lastGood_27 : decode cX0_lastGood 27 = .ok (.ireturn, 1) := by decide +kernel
set_option maxRecDepth 20000 in
theorem ggX0_areAlike_X0_heightOf : GoodIn wsX0_areAlike wsX0_heightOf := goodIn_r _ [10, 11, 12, 13, 14, 9, 15, 16, 17, 18, 19, 20, 21] (by decide +kernel) (by decide +kernel)
set_option maxRecDepth 20000 in
theorem gX0_areAlike_X0_heightOf : GoodIn wsX0_areAlike (wsV RX0 62 RX0 yX0_heightOf wsX0_heightOf) := goodIn_app (goodIn_of _ (by decide +kernel)) ggX0_areAlike_X0_heightOf
theorem dX0_areAlike_0 : decode cX0_areAlike 0 = .ok (.iconst 0, 1) := by decide +kernel
theorem dX0_areAlike_1 : decode cX0_areAlike 1 = .ok (.istore_n 3, 1) := by decide +kernel
theorem dX0_areAlike_2 : decode cX0_areAlike 2 = .ok (.iconst 0, 1) := by decide +kernel
theorem dX0_areAlike_3 : decode cX0_areAlike 3 = .ok (.istore 4, 2) := by decide +kernel
theorem dX0_areAlike_5 : decode cX0_areAlike 5 = .ok (.iload 4, 2) := by decide +kernel
theorem dX0_areAlike_7 : decode cX0_areAlike 7 = .ok (.iconst 3, 1) := by decide +kernel
theorem dX0_areAlike_8 : decode cX0_areAlike 8 = .ok (.if_icmp .ge 30, 3) := by decide +kernel
theorem dX0_areAlike_11 : decode cX0_areAlike 11 = .ok (.iload_n 3, 1) := by decide +kernel
theorem dX0_areAlike_12 : decode cX0_areAlike 12 = .ok (.aload_n 0, 1) := by decide +kernel
theorem dX0_areAlike_13 : decode cX0_areAlike 13 = .ok (.iload_n 1, 1) := by decide +kernel
theorem dX0_areAlike_14 : decode cX0_areAlike 14 = .ok (.iload 4, 2) := by decide +kernel
theorem dX0_areAlike_16 : decode cX0_areAlike 16 = .ok (.invokevirtual 62, 3) := by decide +kernel
theorem dX0_areAlike_19 : decode cX0_areAlike 19 = .ok (.aload_n 0, 1) := by decide +kernel
theorem dX0_areAlike_20 : decode cX0_areAlike 20 = .ok (.iload_n 2, 1) := by decide +kernel
theorem dX0_areAlike_21 : decode cX0_areAlike 21 = .ok (.iload 4, 2) := by decide +kernel
theorem dX0_areAlike_23 : decode cX0_areAlike 23 = .ok (.invokevirtual 62, 3) := by decide +kernel
theorem dX0_areAlike_26 : decode cX0_areAlike 26 = .ok (.isub, 1) := by decide +kernel
theorem dX0_areAlike_27 : decode cX0_areAlike 27 = .ok (.invokestatic 74, 3) := by decide +kernel
theorem dX0_areAlike_30 : decode cX0_areAlike 30 = .ok (.iadd, 1) := by decide +kernel
theorem dX0_areAlike_31 : decode cX0_areAlike 31 = .ok (.istore_n 3, 1) := by decide +kernel
theorem dX0_areAlike_32 : decode cX0_areAlike 32 = .ok (.iinc 4 1, 3) := by decide +kernel
theorem dX0_areAlike_35 : decode cX0_areAlike 35 = .ok (.goto (-30), 3) := by decide +kernel
theorem dX0_areAlike_38 : decode cX0_areAlike 38 = .ok (.iload_n 3, 1) := by decide +kernel
theorem dX0_areAlike_39 : decode cX0_areAlike 39 = .ok (.aload_n 0, 1) := by decide +kernel
theorem dX0_areAlike_40 : decode cX0_areAlike 40 = .ok (.getfield 25, 3) := by decide +kernel
theorem dX0_areAlike_43 : decode cX0_areAlike 43 = .ok (.if_icmp .gt 7, 3) := by decide +kernel
theorem dX0_areAlike_46 : decode cX0_areAlike 46 = .ok (.iconst 1, 1) := by decide +kernel
theorem dX0_areAlike_47 : decode cX0_areAlike 47 = .ok (.goto 4, 3) := by decide +kernel
theorem dX0_areAlike_50 : decode cX0_areAlike 50 = .ok (.iconst 0, 1) := by decide +kernel
theorem dX0_areAlike_51 : decode cX0_areAlike 51 = .ok (.ireturn, 1) := by decide +kernel
set_option maxRecDepth 20000 in
theorem ggX0_likeness_X0_areAlike : GoodIn wsX0_likeness wsX0_areAlike := goodIn_r _ [6, 7, 8, 9, 10, 11, 12, 13, 14, 5, 15, 16, 17, 18, 19, 20, 1, 24, 25, 26, 27, 28] (by decide +kernel) (by decide +kernel)
set_option maxRecDepth 20000 in
theorem gX0_likeness_X0_areAlike : GoodIn wsX0_likeness (wsV RX0 89 RX0 yX0_areAlike wsX0_areAlike) := goodIn_app (goodIn_of _ (by decide +kernel)) ggX0_likeness_X0_areAlike
set_option maxRecDepth 20000 in
theorem ggX0_likeness_X4_bitIf : GoodIn wsX0_likeness wsX4_bitIf := goodIn_r _ [23] (by decide +kernel) (by decide +kernel)
set_option maxRecDepth 20000 in
theorem gX0_likeness_X4_bitIf_n81 : GoodIn wsX0_likeness (wsX4_bitIf) := ggX0_likeness_X4_bitIf
theorem dX0_likeness_0 : decode cX0_likeness 0 = .ok (.iconst 0, 1) := by decide +kernel
theorem dX0_likeness_1 : decode cX0_likeness 1 = .ok (.istore_n 2, 1) := by decide +kernel
theorem dX0_likeness_2 : decode cX0_likeness 2 = .ok (.iconst 0, 1) := by decide +kernel
theorem dX0_likeness_3 : decode cX0_likeness 3 = .ok (.istore_n 3, 1) := by decide +kernel
theorem dX0_likeness_4 : decode cX0_likeness 4 = .ok (.iload_n 3, 1) := by decide +kernel
theorem dX0_likeness_5 : decode cX0_likeness 5 = .ok (.aload_n 0, 1) := by decide +kernel
theorem dX0_likeness_6 : decode cX0_likeness 6 = .ok (.getfield 21, 3) := by decide +kernel
theorem dX0_likeness_9 : decode cX0_likeness 9 = .ok (.if_icmp .ge 35, 3) := by decide +kernel
theorem dX0_likeness_12 : decode cX0_likeness 12 = .ok (.iload_n 2, 1) := by decide +kernel
theorem dX0_likeness_13 : decode cX0_likeness 13 = .ok (.iload_n 3, 1) := by decide +kernel
theorem dX0_likeness_14 : decode cX0_likeness 14 = .ok (.iload_n 1, 1) := by decide +kernel
theorem dX0_likeness_15 : decode cX0_likeness 15 = .ok (.if_icmp .eq 16, 3) := by decide +kernel
theorem dX0_likeness_18 : decode cX0_likeness 18 = .ok (.aload_n 0, 1) := by decide +kernel
theorem dX0_likeness_19 : decode cX0_likeness 19 = .ok (.iload_n 1, 1) := by decide +kernel
theorem dX0_likeness_20 : decode cX0_likeness 20 = .ok (.iload_n 3, 1) := by decide +kernel
theorem dX0_likeness_21 : decode cX0_likeness 21 = .ok (.invokevirtual 89, 3) := by decide +kernel
theorem dX0_likeness_24 : decode cX0_likeness 24 = .ok (.ifCond .eq 7, 3) := by decide +kernel
theorem dX0_likeness_27 : decode cX0_likeness 27 = .ok (.iconst 1, 1) := by decide +kernel
theorem dX0_likeness_28 : decode cX0_likeness 28 = .ok (.goto 4, 3) := by decide +kernel
theorem dX0_likeness_31 : decode cX0_likeness 31 = .ok (.iconst 0, 1) := by decide +kernel
theorem dX0_likeness_32 : decode cX0_likeness 32 = .ok (.iload_n 3, 1) := by decide +kernel
theorem dX0_likeness_33 : decode cX0_likeness 33 = .ok (.invokestatic 81, 3) := by decide +kernel
theorem dX0_likeness_36 : decode cX0_likeness 36 = .ok (.ior, 1) := by decide +kernel
theorem dX0_likeness_37 : decode cX0_likeness 37 = .ok (.istore_n 2, 1) := by decide +kernel
theorem dX0_likeness_38 : decode cX0_likeness 38 = .ok (.iinc 3 1, 3) := by decide +kernel
theorem dX0_likeness_41 : decode cX0_likeness 41 = .ok (.goto (-37), 3) := by decide +kernel
theorem dX0_likeness_44 : decode cX0_likeness 44 = .ok (.iload_n 2, 1) := by decide +kernel
theorem dX0_likeness_45 : decode cX0_likeness 45 = .ok (.ireturn, 1) := by decide +kernel
set_option maxRecDepth 20000 in
theorem ggX0_mostUnlike_X0_likeness : GoodIn wsX0_mostUnlike wsX0_likeness := goodIn_r _ [7, 1, 8, 9, 10, 6, 11, 12, 13, 14, 15, 16, 17, 18, 19, 20, 21, 22, 23, 24, 25, 26, 27, 28, 44, 45, 46, 47, 48] (by decide +kernel) (by decide +kernel)
set_option maxRecDepth 20000 in
theorem gX0_mostUnlike_X0_likeness : GoodIn wsX0_mostUnlike (wsV RX0 92 RX0 yX0_likeness wsX0_likeness) := goodIn_app (goodIn_of _ (by decide +kernel)) ggX0_mostUnlike_X0_likeness
set_option maxRecDepth 20000 in
theorem ggX0_mostUnlike_X0_allPasses : GoodIn wsX0_mostUnlike wsX0_allPasses := goodIn_r _ [32, 1, 44, 45, 46, 47, 48] (by decide +kernel) (by decide +kernel)
set_option maxRecDepth 20000 in
theorem gX0_mostUnlike_X0_allPasses : GoodIn wsX0_mostUnlike (wsV RX0 55 RX0 yX0_allPasses wsX0_allPasses) := goodIn_app (goodIn_of _ (by decide +kernel)) ggX0_mostUnlike_X0_allPasses
set_option maxRecDepth 20000 in
theorem ggX0_mostUnlike_J6_bitCount_0f7a4 : GoodIn wsX0_mostUnlike wsJ6_bitCount_0f7a4 := goodIn_r _ [36, 37, 38, 39] (by decide +kernel) (by decide +kernel)
set_option maxRecDepth 20000 in
theorem gX0_mostUnlike_J6_bitCount_0f7a4 : GoodIn wsX0_mostUnlike (va_wsS RX0 95 yJ6_bitCount_0f7a4 wsJ6_bitCount_0f7a4) := goodIn_app (goodIn_of _ (by decide +kernel)) ggX0_mostUnlike_J6_bitCount_0f7a4
set_option maxRecDepth 20000 in
theorem ggX0_mostUnlike_X0_noneLinkedWithin : GoodIn wsX0_mostUnlike wsX0_noneLinkedWithin := goodIn_r _ [43, 1, 2, 44, 45, 46, 47, 48] (by decide +kernel) (by decide +kernel)
set_option maxRecDepth 20000 in
theorem gX0_mostUnlike_X0_noneLinkedWithin : GoodIn wsX0_mostUnlike (wsV RX0 100 RX0 yX0_noneLinkedWithin wsX0_noneLinkedWithin) := goodIn_app (goodIn_of _ (by decide +kernel)) ggX0_mostUnlike_X0_noneLinkedWithin
theorem dX0_mostUnlike_0 : decode cX0_mostUnlike 0 = .ok (.iconst 0, 1) := by decide +kernel
theorem dX0_mostUnlike_1 : decode cX0_mostUnlike 1 = .ok (.istore_n 1, 1) := by decide +kernel
theorem dX0_mostUnlike_2 : decode cX0_mostUnlike 2 = .ok (.iload_n 1, 1) := by decide +kernel
theorem dX0_mostUnlike_3 : decode cX0_mostUnlike 3 = .ok (.aload_n 0, 1) := by decide +kernel
theorem dX0_mostUnlike_4 : decode cX0_mostUnlike 4 = .ok (.getfield 21, 3) := by decide +kernel
theorem dX0_mostUnlike_7 : decode cX0_mostUnlike 7 = .ok (.if_icmp .ge 20, 3) := by decide +kernel
theorem dX0_mostUnlike_10 : decode cX0_mostUnlike 10 = .ok (.aload_n 0, 1) := by decide +kernel
theorem dX0_mostUnlike_11 : decode cX0_mostUnlike 11 = .ok (.getfield 18, 3) := by decide +kernel
theorem dX0_mostUnlike_14 : decode cX0_mostUnlike 14 = .ok (.iload_n 1, 1) := by decide +kernel
theorem dX0_mostUnlike_15 : decode cX0_mostUnlike 15 = .ok (.aload_n 0, 1) := by decide +kernel
theorem dX0_mostUnlike_16 : decode cX0_mostUnlike 16 = .ok (.iload_n 1, 1) := by decide +kernel
theorem dX0_mostUnlike_17 : decode cX0_mostUnlike 17 = .ok (.invokevirtual 92, 3) := by decide +kernel
theorem dX0_mostUnlike_20 : decode cX0_mostUnlike 20 = .ok (.iastore, 1) := by decide +kernel
theorem dX0_mostUnlike_21 : decode cX0_mostUnlike 21 = .ok (.iinc 1 1, 3) := by decide +kernel
theorem dX0_mostUnlike_24 : decode cX0_mostUnlike 24 = .ok (.goto (-22), 3) := by decide +kernel
theorem dX0_mostUnlike_27 : decode cX0_mostUnlike 27 = .ok (.iconst 0, 1) := by decide +kernel
theorem dX0_mostUnlike_28 : decode cX0_mostUnlike 28 = .ok (.istore_n 1, 1) := by decide +kernel
theorem dX0_mostUnlike_29 : decode cX0_mostUnlike 29 = .ok (.iconst 0, 1) := by decide +kernel
theorem dX0_mostUnlike_30 : decode cX0_mostUnlike 30 = .ok (.istore_n 2, 1) := by decide +kernel
theorem dX0_mostUnlike_31 : decode cX0_mostUnlike 31 = .ok (.iload_n 2, 1) := by decide +kernel
theorem dX0_mostUnlike_32 : decode cX0_mostUnlike 32 = .ok (.aload_n 0, 1) := by decide +kernel
theorem dX0_mostUnlike_33 : decode cX0_mostUnlike 33 = .ok (.invokevirtual 55, 3) := by decide +kernel
theorem dX0_mostUnlike_36 : decode cX0_mostUnlike 36 = .ok (.if_icmp .gt 30, 3) := by decide +kernel
theorem dX0_mostUnlike_39 : decode cX0_mostUnlike 39 = .ok (.iload_n 2, 1) := by decide +kernel
theorem dX0_mostUnlike_40 : decode cX0_mostUnlike 40 = .ok (.invokestatic 95, 3) := by decide +kernel
theorem dX0_mostUnlike_43 : decode cX0_mostUnlike 43 = .ok (.iload_n 1, 1) := by decide +kernel
theorem dX0_mostUnlike_44 : decode cX0_mostUnlike 44 = .ok (.invokestatic 95, 3) := by decide +kernel
theorem dX0_mostUnlike_47 : decode cX0_mostUnlike 47 = .ok (.if_icmp .le 13, 3) := by decide +kernel
theorem dX0_mostUnlike_50 : decode cX0_mostUnlike 50 = .ok (.aload_n 0, 1) := by decide +kernel
theorem dX0_mostUnlike_51 : decode cX0_mostUnlike 51 = .ok (.iload_n 2, 1) := by decide +kernel
theorem dX0_mostUnlike_52 : decode cX0_mostUnlike 52 = .ok (.invokevirtual 100, 3) := by decide +kernel
theorem dX0_mostUnlike_55 : decode cX0_mostUnlike 55 = .ok (.ifCond .eq 5, 3) := by decide +kernel
theorem dX0_mostUnlike_58 : decode cX0_mostUnlike 58 = .ok (.iload_n 2, 1) := by decide +kernel
theorem dX0_mostUnlike_59 : decode cX0_mostUnlike 59 = .ok (.istore_n 1, 1) := by decide +kernel
theorem dX0_mostUnlike_60 : decode cX0_mostUnlike 60 = .ok (.iinc 2 1, 3) := by decide +kernel
theorem dX0_mostUnlike_63 : decode cX0_mostUnlike 63 = .ok (.goto (-32), 3) := by decide +kernel
theorem dX0_mostUnlike_66 : decode cX0_mostUnlike 66 = .ok (.iload_n 1, 1) := by decide +kernel
theorem dX0_mostUnlike_67 : decode cX0_mostUnlike 67 = .ok (.ireturn, 1) := by decide +kernel
theorem dX0_noneLinkedWithin_0 : decode cX0_noneLinkedWithin 0 = .ok (.iconst 0, 1) := by decide +kernel
theorem dX0_noneLinkedWithin_1 : decode cX0_noneLinkedWithin 1 = .ok (.istore_n 2, 1) := by decide +kernel
theorem dX0_noneLinkedWithin_2 : decode cX0_noneLinkedWithin 2 = .ok (.iload_n 2, 1) := by decide +kernel
theorem dX0_noneLinkedWithin_3 : decode cX0_noneLinkedWithin 3 = .ok (.aload_n 0, 1) := by decide +kernel
theorem dX0_noneLinkedWithin_4 : decode cX0_noneLinkedWithin 4 = .ok (.getfield 21, 3) := by decide +kernel
theorem dX0_noneLinkedWithin_7 : decode cX0_noneLinkedWithin 7 = .ok (.if_icmp .ge 30, 3) := by decide +kernel
theorem dX0_noneLinkedWithin_10 : decode cX0_noneLinkedWithin 10 = .ok (.iload_n 1, 1) := by decide +kernel
theorem dX0_noneLinkedWithin_11 : decode cX0_noneLinkedWithin 11 = .ok (.iconst 1, 1) := by decide +kernel
theorem dX0_noneLinkedWithin_12 : decode cX0_noneLinkedWithin 12 = .ok (.iload_n 2, 1) := by decide +kernel
theorem dX0_noneLinkedWithin_13 : decode cX0_noneLinkedWithin 13 = .ok (.ishl, 1) := by decide +kernel
theorem dX0_noneLinkedWithin_14 : decode cX0_noneLinkedWithin 14 = .ok (.iand, 1) := by decide +kernel
theorem dX0_noneLinkedWithin_15 : decode cX0_noneLinkedWithin 15 = .ok (.ifCond .eq 16, 3) := by decide +kernel
theorem dX0_noneLinkedWithin_18 : decode cX0_noneLinkedWithin 18 = .ok (.aload_n 0, 1) := by decide +kernel
theorem dX0_noneLinkedWithin_19 : decode cX0_noneLinkedWithin 19 = .ok (.getfield 18, 3) := by decide +kernel
theorem dX0_noneLinkedWithin_22 : decode cX0_noneLinkedWithin 22 = .ok (.iload_n 2, 1) := by decide +kernel
theorem dX0_noneLinkedWithin_23 : decode cX0_noneLinkedWithin 23 = .ok (.iaload, 1) := by decide +kernel
theorem dX0_noneLinkedWithin_24 : decode cX0_noneLinkedWithin 24 = .ok (.iload_n 1, 1) := by decide +kernel
theorem dX0_noneLinkedWithin_25 : decode cX0_noneLinkedWithin 25 = .ok (.iand, 1) := by decide +kernel
theorem dX0_noneLinkedWithin_26 : decode cX0_noneLinkedWithin 26 = .ok (.ifCond .eq 5, 3) := by decide +kernel
theorem dX0_noneLinkedWithin_29 : decode cX0_noneLinkedWithin 29 = .ok (.iconst 0, 1) := by decide +kernel
theorem dX0_noneLinkedWithin_30 : decode cX0_noneLinkedWithin 30 = .ok (.ireturn, 1) := by decide +kernel
theorem dX0_noneLinkedWithin_31 : decode cX0_noneLinkedWithin 31 = .ok (.iinc 2 1, 3) := by decide +kernel
theorem dX0_noneLinkedWithin_34 : decode cX0_noneLinkedWithin 34 = .ok (.goto (-32), 3) := by decide +kernel
theorem dX0_noneLinkedWithin_37 : decode cX0_noneLinkedWithin 37 = .ok (.iconst 1, 1) := by decide +kernel
theorem dX0_noneLinkedWithin_38 : decode cX0_noneLinkedWithin 38 = .ok (.ireturn, 1) := by decide +kernel
set_option maxRecDepth 20000 in
theorem ggX0_layAll_X0_fitting : GoodIn wsX0_layAll wsX0_fitting := goodIn_r _ [7, 1, 8, 9, 10, 11, 6, 12, 13, 14, 15, 16, 17, 18, 19, 20, 21, 22, 23, 24, 25, 26, 27, 28, 29, 30, 31, 32, 33, 34, 35, 36, 37, 38, 39, 40, 41, 42, 43, 44] (by decide +kernel) (by decide +kernel)
set_option maxRecDepth 20000 in
theorem gX0_layAll_X0_fitting : GoodIn wsX0_layAll (wsV RX0 103 RX0 yX0_fitting wsX0_fitting) := goodIn_app (goodIn_of _ (by decide +kernel)) ggX0_layAll_X0_fitting
theorem dX0_layAll_0 : decode cX0_layAll 0 = .ok (.iconst 0, 1) := by decide +kernel
theorem dX0_layAll_1 : decode cX0_layAll 1 = .ok (.istore_n 2, 1) := by decide +kernel
theorem dX0_layAll_2 : decode cX0_layAll 2 = .ok (.iload_n 2, 1) := by decide +kernel
theorem dX0_layAll_3 : decode cX0_layAll 3 = .ok (.aload_n 0, 1) := by decide +kernel
theorem dX0_layAll_4 : decode cX0_layAll 4 = .ok (.getfield 21, 3) := by decide +kernel
theorem dX0_layAll_7 : decode cX0_layAll 7 = .ok (.if_icmp .ge 21, 3) := by decide +kernel
theorem dX0_layAll_10 : decode cX0_layAll 10 = .ok (.aload_n 0, 1) := by decide +kernel
theorem dX0_layAll_11 : decode cX0_layAll 11 = .ok (.getfield 18, 3) := by decide +kernel
theorem dX0_layAll_14 : decode cX0_layAll 14 = .ok (.iload_n 2, 1) := by decide +kernel
theorem dX0_layAll_15 : decode cX0_layAll 15 = .ok (.aload_n 0, 1) := by decide +kernel
theorem dX0_layAll_16 : decode cX0_layAll 16 = .ok (.iload_n 2, 1) := by decide +kernel
theorem dX0_layAll_17 : decode cX0_layAll 17 = .ok (.iload_n 1, 1) := by decide +kernel
theorem dX0_layAll_18 : decode cX0_layAll 18 = .ok (.invokevirtual 103, 3) := by decide +kernel
theorem dX0_layAll_21 : decode cX0_layAll 21 = .ok (.iastore, 1) := by decide +kernel
theorem dX0_layAll_22 : decode cX0_layAll 22 = .ok (.iinc 2 1, 3) := by decide +kernel
theorem dX0_layAll_25 : decode cX0_layAll 25 = .ok (.goto (-23), 3) := by decide +kernel
theorem dX0_layAll_28 : decode cX0_layAll 28 = .ok (.return_, 1) := by decide +kernel
set_option maxRecDepth 20000 in
theorem ggX0_freedBy_X4_bitIf : GoodIn wsX0_freedBy wsX4_bitIf := goodIn_r _ [5] (by decide +kernel) (by decide +kernel)
set_option maxRecDepth 20000 in
theorem gX0_freedBy_X4_bitIf_n81 : GoodIn wsX0_freedBy (wsX4_bitIf) := ggX0_freedBy_X4_bitIf
theorem dX0_freedBy_0 : decode cX0_freedBy 0 = .ok (.iconst 0, 1) := by decide +kernel
theorem dX0_freedBy_1 : decode cX0_freedBy 1 = .ok (.istore_n 2, 1) := by decide +kernel
theorem dX0_freedBy_2 : decode cX0_freedBy 2 = .ok (.iconst 0, 1) := by decide +kernel
theorem dX0_freedBy_3 : decode cX0_freedBy 3 = .ok (.istore_n 3, 1) := by decide +kernel
theorem dX0_freedBy_4 : decode cX0_freedBy 4 = .ok (.iload_n 3, 1) := by decide +kernel
theorem dX0_freedBy_5 : decode cX0_freedBy 5 = .ok (.aload_n 0, 1) := by decide +kernel
theorem dX0_freedBy_6 : decode cX0_freedBy 6 = .ok (.getfield 21, 3) := by decide +kernel
theorem dX0_freedBy_9 : decode cX0_freedBy 9 = .ok (.if_icmp .ge 32, 3) := by decide +kernel
theorem dX0_freedBy_12 : decode cX0_freedBy 12 = .ok (.iload_n 2, 1) := by decide +kernel
theorem dX0_freedBy_13 : decode cX0_freedBy 13 = .ok (.aload_n 0, 1) := by decide +kernel
theorem dX0_freedBy_14 : decode cX0_freedBy 14 = .ok (.getfield 18, 3) := by decide +kernel
theorem dX0_freedBy_17 : decode cX0_freedBy 17 = .ok (.iload_n 3, 1) := by decide +kernel
theorem dX0_freedBy_18 : decode cX0_freedBy 18 = .ok (.iaload, 1) := by decide +kernel
theorem dX0_freedBy_19 : decode cX0_freedBy 19 = .ok (.iload_n 1, 1) := by decide +kernel
theorem dX0_freedBy_20 : decode cX0_freedBy 20 = .ok (.iand, 1) := by decide +kernel
theorem dX0_freedBy_21 : decode cX0_freedBy 21 = .ok (.ifCond .eq 7, 3) := by decide +kernel
theorem dX0_freedBy_24 : decode cX0_freedBy 24 = .ok (.iconst 1, 1) := by decide +kernel
theorem dX0_freedBy_25 : decode cX0_freedBy 25 = .ok (.goto 4, 3) := by decide +kernel
theorem dX0_freedBy_28 : decode cX0_freedBy 28 = .ok (.iconst 0, 1) := by decide +kernel
theorem dX0_freedBy_29 : decode cX0_freedBy 29 = .ok (.iload_n 3, 1) := by decide +kernel
theorem dX0_freedBy_30 : decode cX0_freedBy 30 = .ok (.invokestatic 81, 3) := by decide +kernel
theorem dX0_freedBy_33 : decode cX0_freedBy 33 = .ok (.ior, 1) := by decide +kernel
theorem dX0_freedBy_34 : decode cX0_freedBy 34 = .ok (.istore_n 2, 1) := by decide +kernel
theorem dX0_freedBy_35 : decode cX0_freedBy 35 = .ok (.iinc 3 1, 3) := by decide +kernel
theorem dX0_freedBy_38 : decode cX0_freedBy 38 = .ok (.goto (-34), 3) := by decide +kernel
theorem dX0_freedBy_41 : decode cX0_freedBy 41 = .ok (.iload_n 2, 1) := by decide +kernel
theorem dX0_freedBy_42 : decode cX0_freedBy 42 = .ok (.ireturn, 1) := by decide +kernel
set_option maxRecDepth 20000 in
theorem ggX0_fewestFreeing_X0_allPasses : GoodIn wsX0_fewestFreeing wsX0_allPasses := goodIn_r _ [6, 1, 22, 23, 24, 25, 26] (by decide +kernel) (by decide +kernel)
set_option maxRecDepth 20000 in
theorem gX0_fewestFreeing_X0_allPasses : GoodIn wsX0_fewestFreeing (wsV RX0 55 RX0 yX0_allPasses wsX0_allPasses) := goodIn_app (goodIn_of _ (by decide +kernel)) ggX0_fewestFreeing_X0_allPasses
set_option maxRecDepth 20000 in
theorem ggX0_fewestFreeing_J6_bitCount_0f7a4 : GoodIn wsX0_fewestFreeing wsJ6_bitCount_0f7a4 := goodIn_r _ [10, 11, 12, 13] (by decide +kernel) (by decide +kernel)
set_option maxRecDepth 20000 in
theorem gX0_fewestFreeing_J6_bitCount_0f7a4 : GoodIn wsX0_fewestFreeing (va_wsS RX0 95 yJ6_bitCount_0f7a4 wsJ6_bitCount_0f7a4) := goodIn_app (goodIn_of _ (by decide +kernel)) ggX0_fewestFreeing_J6_bitCount_0f7a4
set_option maxRecDepth 20000 in
theorem ggX0_fewestFreeing_X0_freedBy : GoodIn wsX0_fewestFreeing wsX0_freedBy := goodIn_r _ [17, 1, 18, 19, 20, 21, 22, 23, 24, 25, 26] (by decide +kernel) (by decide +kernel)
set_option maxRecDepth 20000 in
theorem gX0_fewestFreeing_X0_freedBy : GoodIn wsX0_fewestFreeing (wsV RX0 106 RX0 yX0_freedBy wsX0_freedBy) := goodIn_app (goodIn_of _ (by decide +kernel)) ggX0_fewestFreeing_X0_freedBy
theorem dX0_fewestFreeing_0 : decode cX0_fewestFreeing 0 = .ok (.bipush (-9), 2) := by decide +kernel
theorem dX0_fewestFreeing_2 : decode cX0_fewestFreeing 2 = .ok (.istore_n 1, 1) := by decide +kernel
theorem dX0_fewestFreeing_3 : decode cX0_fewestFreeing 3 = .ok (.aload_n 0, 1) := by decide +kernel
theorem dX0_fewestFreeing_4 : decode cX0_fewestFreeing 4 = .ok (.getfield 21, 3) := by decide +kernel
theorem dX0_fewestFreeing_7 : decode cX0_fewestFreeing 7 = .ok (.iconst 1, 1) := by decide +kernel
theorem dX0_fewestFreeing_8 : decode cX0_fewestFreeing 8 = .ok (.iadd, 1) := by decide +kernel
theorem dX0_fewestFreeing_9 : decode cX0_fewestFreeing 9 = .ok (.istore_n 2, 1) := by decide +kernel
theorem dX0_fewestFreeing_10 : decode cX0_fewestFreeing 10 = .ok (.iconst 0, 1) := by decide +kernel
theorem dX0_fewestFreeing_11 : decode cX0_fewestFreeing 11 = .ok (.istore_n 3, 1) := by decide +kernel
theorem dX0_fewestFreeing_12 : decode cX0_fewestFreeing 12 = .ok (.iload_n 3, 1) := by decide +kernel
theorem dX0_fewestFreeing_13 : decode cX0_fewestFreeing 13 = .ok (.aload_n 0, 1) := by decide +kernel
theorem dX0_fewestFreeing_14 : decode cX0_fewestFreeing 14 = .ok (.invokevirtual 55, 3) := by decide +kernel
theorem dX0_fewestFreeing_17 : decode cX0_fewestFreeing 17 = .ok (.if_icmp .gt 36, 3) := by decide +kernel
theorem dX0_fewestFreeing_20 : decode cX0_fewestFreeing 20 = .ok (.iload_n 3, 1) := by decide +kernel
theorem dX0_fewestFreeing_21 : decode cX0_fewestFreeing 21 = .ok (.invokestatic 95, 3) := by decide +kernel
theorem dX0_fewestFreeing_24 : decode cX0_fewestFreeing 24 = .ok (.iload_n 2, 1) := by decide +kernel
theorem dX0_fewestFreeing_25 : decode cX0_fewestFreeing 25 = .ok (.if_icmp .ge 22, 3) := by decide +kernel
theorem dX0_fewestFreeing_28 : decode cX0_fewestFreeing 28 = .ok (.aload_n 0, 1) := by decide +kernel
theorem dX0_fewestFreeing_29 : decode cX0_fewestFreeing 29 = .ok (.iload_n 3, 1) := by decide +kernel
theorem dX0_fewestFreeing_30 : decode cX0_fewestFreeing 30 = .ok (.invokevirtual 106, 3) := by decide +kernel
theorem dX0_fewestFreeing_33 : decode cX0_fewestFreeing 33 = .ok (.aload_n 0, 1) := by decide +kernel
theorem dX0_fewestFreeing_34 : decode cX0_fewestFreeing 34 = .ok (.invokevirtual 55, 3) := by decide +kernel
theorem dX0_fewestFreeing_37 : decode cX0_fewestFreeing 37 = .ok (.if_icmp .ne 10, 3) := by decide +kernel
theorem dX0_fewestFreeing_40 : decode cX0_fewestFreeing 40 = .ok (.iload_n 3, 1) := by decide +kernel
theorem dX0_fewestFreeing_41 : decode cX0_fewestFreeing 41 = .ok (.istore_n 1, 1) := by decide +kernel
theorem dX0_fewestFreeing_42 : decode cX0_fewestFreeing 42 = .ok (.iload_n 3, 1) := by decide +kernel
theorem dX0_fewestFreeing_43 : decode cX0_fewestFreeing 43 = .ok (.invokestatic 95, 3) := by decide +kernel
theorem dX0_fewestFreeing_46 : decode cX0_fewestFreeing 46 = .ok (.istore_n 2, 1) := by decide +kernel
theorem dX0_fewestFreeing_47 : decode cX0_fewestFreeing 47 = .ok (.iinc 3 1, 3) := by decide +kernel
theorem dX0_fewestFreeing_50 : decode cX0_fewestFreeing 50 = .ok (.goto (-38), 3) := by decide +kernel
theorem dX0_fewestFreeing_53 : decode cX0_fewestFreeing 53 = .ok (.iload_n 1, 1) := by decide +kernel
theorem dX0_fewestFreeing_54 : decode cX0_fewestFreeing 54 = .ok (.ireturn, 1) := by decide +kernel
theorem dX1_init_0 : decode cX1_init 0 = .ok (.aload_n 0, 1) := by decide +kernel
theorem dX1_init_1 : decode cX1_init 1 = .ok (.invokespecial 3, 3) := by decide +kernel
theorem dX1_init_4 : decode cX1_init 4 = .ok (.aload_n 0, 1) := by decide +kernel
theorem dX1_init_5 : decode cX1_init 5 = .ok (.bipush 8, 2) := by decide +kernel
theorem dX1_init_7 : decode cX1_init 7 = .ok (.newarray .int, 2) := by decide +kernel
theorem dX1_init_9 : decode cX1_init 9 = .ok (.putfield 9, 3) := by decide +kernel
theorem dX1_init_12 : decode cX1_init 12 = .ok (.aload_n 0, 1) := by decide +kernel
theorem dX1_init_13 : decode cX1_init 13 = .ok (.bipush 8, 2) := by decide +kernel
theorem dX1_init_15 : decode cX1_init 15 = .ok (.newarray .int, 2) := by decide +kernel
theorem dX1_init_17 : decode cX1_init 17 = .ok (.putfield 15, 3) := by decide +kernel
theorem dX1_init_20 : decode cX1_init 20 = .ok (.aload_n 0, 1) := by decide +kernel
theorem dX1_init_21 : decode cX1_init 21 = .ok (.bipush 8, 2) := by decide +kernel
theorem dX1_init_23 : decode cX1_init 23 = .ok (.newarray .int, 2) := by decide +kernel
theorem dX1_init_25 : decode cX1_init 25 = .ok (.putfield 18, 3) := by decide +kernel
theorem dX1_init_28 : decode cX1_init 28 = .ok (.aload_n 0, 1) := by decide +kernel
theorem dX1_init_29 : decode cX1_init 29 = .ok (.bipush 8, 2) := by decide +kernel
theorem dX1_init_31 : decode cX1_init 31 = .ok (.newarray .boolean, 2) := by decide +kernel
theorem dX1_init_33 : decode cX1_init 33 = .ok (.putfield 21, 3) := by decide +kernel
theorem dX1_init_36 : decode cX1_init 36 = .ok (.aload_n 0, 1) := by decide +kernel
theorem dX1_init_37 : decode cX1_init 37 = .ok (.iconst 0, 1) := by decide +kernel
theorem dX1_init_38 : decode cX1_init 38 = .ok (.putfield 25, 3) := by decide +kernel
theorem dX1_init_41 : decode cX1_init 41 = .ok (.return_, 1) := by decide +kernel
theorem dX1_howMany_0 : decode cX1_howMany 0 = .ok (.aload_n 0, 1) := by decide +kernel
theorem dX1_howMany_1 : decode cX1_howMany 1 = .ok (.getfield 25, 3) := by decide +kernel
theorem dX1_howMany_4 : decode cX1_howMany 4 = .ok (.ireturn, 1) := by decide +kernel
theorem dX1_append_0 : decode cX1_append 0 = .ok (.aload_n 0, 1) := by decide +kernel
theorem dX1_append_1 : decode cX1_append 1 = .ok (.getfield 25, 3) := by decide +kernel
theorem dX1_append_4 : decode cX1_append 4 = .ok (.bipush 8, 2) := by decide +kernel
theorem dX1_append_6 : decode cX1_append 6 = .ok (.if_icmp .lt 4, 3) := by decide +kernel
theorem dX1_append_9 : decode cX1_append 9 = .ok (.return_, 1) := by decide +kernel
theorem dX1_append_10 : decode cX1_append 10 = .ok (.aload_n 0, 1) := by decide +kernel
theorem dX1_append_11 : decode cX1_append 11 = .ok (.getfield 9, 3) := by decide +kernel
theorem dX1_append_14 : decode cX1_append 14 = .ok (.aload_n 0, 1) := by decide +kernel
theorem dX1_append_15 : decode cX1_append 15 = .ok (.getfield 25, 3) := by decide +kernel
theorem dX1_append_18 : decode cX1_append 18 = .ok (.iload_n 1, 1) := by decide +kernel
theorem dX1_append_19 : decode cX1_append 19 = .ok (.iastore, 1) := by decide +kernel
theorem dX1_append_20 : decode cX1_append 20 = .ok (.aload_n 0, 1) := by decide +kernel
theorem dX1_append_21 : decode cX1_append 21 = .ok (.getfield 15, 3) := by decide +kernel
theorem dX1_append_24 : decode cX1_append 24 = .ok (.aload_n 0, 1) := by decide +kernel
theorem dX1_append_25 : decode cX1_append 25 = .ok (.getfield 25, 3) := by decide +kernel
theorem dX1_append_28 : decode cX1_append 28 = .ok (.iload_n 2, 1) := by decide +kernel
theorem dX1_append_29 : decode cX1_append 29 = .ok (.iastore, 1) := by decide +kernel
theorem dX1_append_30 : decode cX1_append 30 = .ok (.aload_n 0, 1) := by decide +kernel
theorem dX1_append_31 : decode cX1_append 31 = .ok (.getfield 18, 3) := by decide +kernel
theorem dX1_append_34 : decode cX1_append 34 = .ok (.aload_n 0, 1) := by decide +kernel
theorem dX1_append_35 : decode cX1_append 35 = .ok (.getfield 25, 3) := by decide +kernel
theorem dX1_append_38 : decode cX1_append 38 = .ok (.iload_n 3, 1) := by decide +kernel
theorem dX1_append_39 : decode cX1_append 39 = .ok (.iastore, 1) := by decide +kernel
theorem dX1_append_40 : decode cX1_append 40 = .ok (.aload_n 0, 1) := by decide +kernel
theorem dX1_append_41 : decode cX1_append 41 = .ok (.getfield 21, 3) := by decide +kernel
theorem dX1_append_44 : decode cX1_append 44 = .ok (.aload_n 0, 1) := by decide +kernel
theorem dX1_append_45 : decode cX1_append 45 = .ok (.getfield 25, 3) := by decide +kernel
theorem dX1_append_48 : decode cX1_append 48 = .ok (.iload 4, 2) := by decide +kernel
theorem dX1_append_50 : decode cX1_append 50 = .ok (.bastore, 1) := by decide +kernel
theorem dX1_append_51 : decode cX1_append 51 = .ok (.aload_n 0, 1) := by decide +kernel
theorem dX1_append_52 : decode cX1_append 52 = .ok (.dup, 1) := by decide +kernel
theorem dX1_append_53 : decode cX1_append 53 = .ok (.getfield 25, 3) := by decide +kernel
theorem dX1_append_56 : decode cX1_append 56 = .ok (.iconst 1, 1) := by decide +kernel
theorem dX1_append_57 : decode cX1_append 57 = .ok (.iadd, 1) := by decide +kernel
theorem dX1_append_58 : decode cX1_append 58 = .ok (.putfield 25, 3) := by decide +kernel
theorem dX1_append_61 : decode cX1_append 61 = .ok (.return_, 1) := by decide +kernel
theorem dX1_dropLast_0 : decode cX1_dropLast 0 = .ok (.iload_n 1, 1) := by decide +kernel
theorem dX1_dropLast_1 : decode cX1_dropLast 1 = .ok (.ifCond .lt 21, 3) := by decide +kernel
theorem dX1_dropLast_4 : decode cX1_dropLast 4 = .ok (.iload_n 1, 1) := by decide +kernel
theorem dX1_dropLast_5 : decode cX1_dropLast 5 = .ok (.aload_n 0, 1) := by decide +kernel
theorem dX1_dropLast_6 : decode cX1_dropLast 6 = .ok (.getfield 25, 3) := by decide +kernel
theorem dX1_dropLast_9 : decode cX1_dropLast 9 = .ok (.if_icmp .gt 13, 3) := by decide +kernel
theorem dX1_dropLast_12 : decode cX1_dropLast 12 = .ok (.aload_n 0, 1) := by decide +kernel
theorem dX1_dropLast_13 : decode cX1_dropLast 13 = .ok (.dup, 1) := by decide +kernel
theorem dX1_dropLast_14 : decode cX1_dropLast 14 = .ok (.getfield 25, 3) := by decide +kernel
theorem dX1_dropLast_17 : decode cX1_dropLast 17 = .ok (.iload_n 1, 1) := by decide +kernel
theorem dX1_dropLast_18 : decode cX1_dropLast 18 = .ok (.isub, 1) := by decide +kernel
theorem dX1_dropLast_19 : decode cX1_dropLast 19 = .ok (.putfield 25, 3) := by decide +kernel
theorem dX1_dropLast_22 : decode cX1_dropLast 22 = .ok (.return_, 1) := by decide +kernel
set_option maxRecDepth 20000 in
theorem ggX1_areSo_X0_doFit : GoodIn wsX1_areSo wsX0_doFit := goodIn_r _ [10, 11, 12, 13, 14, 9, 15, 16, 17, 18, 19, 20, 21, 22, 23, 24, 25, 26, 27, 28, 29, 30, 31, 32, 33, 34, 35, 36, 37, 38, 39, 40, 46, 47, 48, 49, 50] (by decide +kernel) (by decide +kernel)
set_option maxRecDepth 20000 in
theorem gX1_areSo_X0_doFit : GoodIn wsX1_areSo (wsV RX1 29 RX0 yX0_doFit wsX0_doFit) := goodIn_app (goodIn_of _ (by decide +kernel)) ggX1_areSo_X0_doFit
theorem dX1_areSo_0 : decode cX1_areSo 0 = .ok (.iconst 0, 1) := by decide +kernel
theorem dX1_areSo_1 : decode cX1_areSo 1 = .ok (.istore_n 2, 1) := by decide +kernel
theorem dX1_areSo_2 : decode cX1_areSo 2 = .ok (.iload_n 2, 1) := by decide +kernel
theorem dX1_areSo_3 : decode cX1_areSo 3 = .ok (.aload_n 0, 1) := by decide +kernel
theorem dX1_areSo_4 : decode cX1_areSo 4 = .ok (.getfield 25, 3) := by decide +kernel
theorem dX1_areSo_7 : decode cX1_areSo 7 = .ok (.if_icmp .ge 42, 3) := by decide +kernel
theorem dX1_areSo_10 : decode cX1_areSo 10 = .ok (.aload_n 1, 1) := by decide +kernel
theorem dX1_areSo_11 : decode cX1_areSo 11 = .ok (.aload_n 0, 1) := by decide +kernel
theorem dX1_areSo_12 : decode cX1_areSo 12 = .ok (.getfield 9, 3) := by decide +kernel
theorem dX1_areSo_15 : decode cX1_areSo 15 = .ok (.iload_n 2, 1) := by decide +kernel
theorem dX1_areSo_16 : decode cX1_areSo 16 = .ok (.iaload, 1) := by decide +kernel
theorem dX1_areSo_17 : decode cX1_areSo 17 = .ok (.aload_n 0, 1) := by decide +kernel
theorem dX1_areSo_18 : decode cX1_areSo 18 = .ok (.getfield 15, 3) := by decide +kernel
theorem dX1_areSo_21 : decode cX1_areSo 21 = .ok (.iload_n 2, 1) := by decide +kernel
theorem dX1_areSo_22 : decode cX1_areSo 22 = .ok (.iaload, 1) := by decide +kernel
theorem dX1_areSo_23 : decode cX1_areSo 23 = .ok (.aload_n 0, 1) := by decide +kernel
theorem dX1_areSo_24 : decode cX1_areSo 24 = .ok (.getfield 18, 3) := by decide +kernel
theorem dX1_areSo_27 : decode cX1_areSo 27 = .ok (.iload_n 2, 1) := by decide +kernel
theorem dX1_areSo_28 : decode cX1_areSo 28 = .ok (.iaload, 1) := by decide +kernel
theorem dX1_areSo_29 : decode cX1_areSo 29 = .ok (.invokevirtual 29, 3) := by decide +kernel
theorem dX1_areSo_32 : decode cX1_areSo 32 = .ok (.aload_n 0, 1) := by decide +kernel
theorem dX1_areSo_33 : decode cX1_areSo 33 = .ok (.getfield 21, 3) := by decide +kernel
theorem dX1_areSo_36 : decode cX1_areSo 36 = .ok (.iload_n 2, 1) := by decide +kernel
theorem dX1_areSo_37 : decode cX1_areSo 37 = .ok (.baload, 1) := by decide +kernel
theorem dX1_areSo_38 : decode cX1_areSo 38 = .ok (.if_icmp .eq 5, 3) := by decide +kernel
theorem dX1_areSo_41 : decode cX1_areSo 41 = .ok (.iconst 0, 1) := by decide +kernel
theorem dX1_areSo_42 : decode cX1_areSo 42 = .ok (.ireturn, 1) := by decide +kernel
theorem dX1_areSo_43 : decode cX1_areSo 43 = .ok (.iinc 2 1, 3) := by decide +kernel
theorem dX1_areSo_46 : decode cX1_areSo 46 = .ok (.goto (-44), 3) := by decide +kernel
theorem dX1_areSo_49 : decode cX1_areSo 49 = .ok (.iconst 1, 1) := by decide +kernel
theorem dX1_areSo_50 : decode cX1_areSo 50 = .ok (.ireturn, 1) := by decide +kernel
theorem dX2_init_0 : decode cX2_init 0 = .ok (.aload_n 0, 1) := by decide +kernel
theorem dX2_init_1 : decode cX2_init 1 = .ok (.invokespecial 3, 3) := by decide +kernel
theorem dX2_init_4 : decode cX2_init 4 = .ok (.aload_n 0, 1) := by decide +kernel
theorem dX2_init_5 : decode cX2_init 5 = .ok (.bipush 60, 2) := by decide +kernel
theorem dX2_init_7 : decode cX2_init 7 = .ok (.newarray .int, 2) := by decide +kernel
theorem dX2_init_9 : decode cX2_init 9 = .ok (.putfield 9, 3) := by decide +kernel
theorem dX2_init_12 : decode cX2_init 12 = .ok (.aload_n 0, 1) := by decide +kernel
theorem dX2_init_13 : decode cX2_init 13 = .ok (.iconst (-1), 1) := by decide +kernel
theorem dX2_init_14 : decode cX2_init 14 = .ok (.putfield 15, 3) := by decide +kernel
theorem dX2_init_17 : decode cX2_init 17 = .ok (.aload_n 0, 1) := by decide +kernel
theorem dX2_init_18 : decode cX2_init 18 = .ok (.iconst 0, 1) := by decide +kernel
theorem dX2_init_19 : decode cX2_init 19 = .ok (.putfield 19, 3) := by decide +kernel
theorem dX2_init_22 : decode cX2_init 22 = .ok (.return_, 1) := by decide +kernel
set_option maxRecDepth 20000 in
theorem ggX2_begin_J7_fill_53178 : GoodIn wsX2_begin wsJ7_fill_53178 := goodIn_r _ [7] (by decide +kernel) (by decide +kernel)
set_option maxRecDepth 20000 in
theorem gX2_begin_J7_fill_53178 : GoodIn wsX2_begin (va_wsS RX2 22 yJ7_fill_53178 wsJ7_fill_53178) := goodIn_app (goodIn_of _ (by decide +kernel)) ggX2_begin_J7_fill_53178
theorem dX2_begin_0 : decode cX2_begin 0 = .ok (.aload_n 0, 1) := by decide +kernel
theorem dX2_begin_1 : decode cX2_begin 1 = .ok (.getfield 9, 3) := by decide +kernel
theorem dX2_begin_4 : decode cX2_begin 4 = .ok (.iconst 0, 1) := by decide +kernel
theorem dX2_begin_5 : decode cX2_begin 5 = .ok (.invokestatic 22, 3) := by decide +kernel
theorem dX2_begin_8 : decode cX2_begin 8 = .ok (.aload_n 0, 1) := by decide +kernel
theorem dX2_begin_9 : decode cX2_begin 9 = .ok (.iload_n 1, 1) := by decide +kernel
theorem dX2_begin_10 : decode cX2_begin 10 = .ok (.putfield 15, 3) := by decide +kernel
theorem dX2_begin_13 : decode cX2_begin 13 = .ok (.aload_n 0, 1) := by decide +kernel
theorem dX2_begin_14 : decode cX2_begin 14 = .ok (.iload_n 2, 1) := by decide +kernel
theorem dX2_begin_15 : decode cX2_begin 15 = .ok (.putfield 19, 3) := by decide +kernel
theorem dX2_begin_18 : decode cX2_begin 18 = .ok (.return_, 1) := by decide +kernel
theorem dX2_drop_0 : decode cX2_drop 0 = .ok (.aload_n 0, 1) := by decide +kernel
theorem dX2_drop_1 : decode cX2_drop 1 = .ok (.iconst (-1), 1) := by decide +kernel
theorem dX2_drop_2 : decode cX2_drop 2 = .ok (.putfield 15, 3) := by decide +kernel
theorem dX2_drop_5 : decode cX2_drop 5 = .ok (.aload_n 0, 1) := by decide +kernel
theorem dX2_drop_6 : decode cX2_drop 6 = .ok (.iconst 0, 1) := by decide +kernel
theorem dX2_drop_7 : decode cX2_drop 7 = .ok (.putfield 19, 3) := by decide +kernel
theorem dX2_drop_10 : decode cX2_drop 10 = .ok (.return_, 1) := by decide +kernel
theorem dX2_hasNothing_0 : decode cX2_hasNothing 0 = .ok (.aload_n 0, 1) := by decide +kernel
theorem dX2_hasNothing_1 : decode cX2_hasNothing 1 = .ok (.getfield 15, 3) := by decide +kernel
theorem dX2_hasNothing_4 : decode cX2_hasNothing 4 = .ok (.iconst (-1), 1) := by decide +kernel
theorem dX2_hasNothing_5 : decode cX2_hasNothing 5 = .ok (.if_icmp .ne 7, 3) := by decide +kernel
theorem dX2_hasNothing_8 : decode cX2_hasNothing 8 = .ok (.iconst 1, 1) := by decide +kernel
theorem dX2_hasNothing_9 : decode cX2_hasNothing 9 = .ok (.goto 4, 3) := by decide +kernel
theorem dX2_hasNothing_12 : decode cX2_hasNothing 12 = .ok (.iconst 0, 1) := by decide +kernel
theorem dX2_hasNothing_13 : decode cX2_hasNothing 13 = .ok (.ireturn, 1) := by decide +kernel
theorem dX2_laneNow_0 : decode cX2_laneNow 0 = .ok (.aload_n 0, 1) := by decide +kernel
theorem dX2_laneNow_1 : decode cX2_laneNow 1 = .ok (.getfield 15, 3) := by decide +kernel
theorem dX2_laneNow_4 : decode cX2_laneNow 4 = .ok (.ireturn, 1) := by decide +kernel
theorem dX2_isOfAnother_0 : decode cX2_isOfAnother 0 = .ok (.aload_n 0, 1) := by decide +kernel
theorem dX2_isOfAnother_1 : decode cX2_isOfAnother 1 = .ok (.getfield 15, 3) := by decide +kernel
theorem dX2_isOfAnother_4 : decode cX2_isOfAnother 4 = .ok (.iload_n 1, 1) := by decide +kernel
theorem dX2_isOfAnother_5 : decode cX2_isOfAnother 5 = .ok (.if_icmp .eq 7, 3) := by decide +kernel
theorem dX2_isOfAnother_8 : decode cX2_isOfAnother 8 = .ok (.iconst 1, 1) := by decide +kernel
theorem dX2_isOfAnother_9 : decode cX2_isOfAnother 9 = .ok (.goto 4, 3) := by decide +kernel
theorem dX2_isOfAnother_12 : decode cX2_isOfAnother 12 = .ok (.iconst 0, 1) := by decide +kernel
theorem dX2_isOfAnother_13 : decode cX2_isOfAnother 13 = .ok (.ireturn, 1) := by decide +kernel
theorem dX2_hasCell_0 : decode cX2_hasCell 0 = .ok (.iload_n 1, 1) := by decide +kernel
theorem dX2_hasCell_1 : decode cX2_hasCell 1 = .ok (.ifCond .lt 15, 3) := by decide +kernel
theorem dX2_hasCell_4 : decode cX2_hasCell 4 = .ok (.iload_n 1, 1) := by decide +kernel
theorem dX2_hasCell_5 : decode cX2_hasCell 5 = .ok (.aload_n 0, 1) := by decide +kernel
theorem dX2_hasCell_6 : decode cX2_hasCell 6 = .ok (.getfield 19, 3) := by decide +kernel
theorem dX2_hasCell_9 : decode cX2_hasCell 9 = .ok (.if_icmp .ge 7, 3) := by decide +kernel
theorem dX2_hasCell_12 : decode cX2_hasCell 12 = .ok (.iconst 1, 1) := by decide +kernel
theorem dX2_hasCell_13 : decode cX2_hasCell 13 = .ok (.goto 4, 3) := by decide +kernel
theorem dX2_hasCell_16 : decode cX2_hasCell 16 = .ok (.iconst 0, 1) := by decide +kernel
theorem dX2_hasCell_17 : decode cX2_hasCell 17 = .ok (.ireturn, 1) := by decide +kernel
theorem dX2_hasCells_0 : decode cX2_hasCells 0 = .ok (.iload_n 1, 1) := by decide +kernel
theorem dX2_hasCells_1 : decode cX2_hasCells 1 = .ok (.ifCond .lt 29, 3) := by decide +kernel
theorem dX2_hasCells_4 : decode cX2_hasCells 4 = .ok (.iload_n 1, 1) := by decide +kernel
theorem dX2_hasCells_5 : decode cX2_hasCells 5 = .ok (.aload_n 0, 1) := by decide +kernel
theorem dX2_hasCells_6 : decode cX2_hasCells 6 = .ok (.getfield 19, 3) := by decide +kernel
theorem dX2_hasCells_9 : decode cX2_hasCells 9 = .ok (.if_icmp .gt 21, 3) := by decide +kernel
theorem dX2_hasCells_12 : decode cX2_hasCells 12 = .ok (.iload_n 2, 1) := by decide +kernel
theorem dX2_hasCells_13 : decode cX2_hasCells 13 = .ok (.ifCond .lt 17, 3) := by decide +kernel
theorem dX2_hasCells_16 : decode cX2_hasCells 16 = .ok (.iload_n 2, 1) := by decide +kernel
theorem dX2_hasCells_17 : decode cX2_hasCells 17 = .ok (.aload_n 0, 1) := by decide +kernel
theorem dX2_hasCells_18 : decode cX2_hasCells 18 = .ok (.getfield 19, 3) := by decide +kernel
theorem dX2_hasCells_21 : decode cX2_hasCells 21 = .ok (.iload_n 1, 1) := by decide +kernel
theorem dX2_hasCells_22 : decode cX2_hasCells 22 = .ok (.isub, 1) := by decide +kernel
theorem dX2_hasCells_23 : decode cX2_hasCells 23 = .ok (.if_icmp .gt 7, 3) := by decide +kernel
theorem dX2_hasCells_26 : decode cX2_hasCells 26 = .ok (.iconst 1, 1) := by decide +kernel
theorem dX2_hasCells_27 : decode cX2_hasCells 27 = .ok (.goto 4, 3) := by decide +kernel
theorem dX2_hasCells_30 : decode cX2_hasCells 30 = .ok (.iconst 0, 1) := by decide +kernel
theorem dX2_hasCells_31 : decode cX2_hasCells 31 = .ok (.ireturn, 1) := by decide +kernel
set_option maxRecDepth 20000 in
theorem ggX2_at_X2_hasCell : GoodIn wsX2_at wsX2_hasCell := goodIn_r _ [6, 7, 8, 9, 10] (by decide +kernel) (by decide +kernel)
set_option maxRecDepth 20000 in
theorem gX2_at_X2_hasCell : GoodIn wsX2_at (wsV RX2 28 RX2 yX2_hasCell wsX2_hasCell) := goodIn_app (goodIn_of _ (by decide +kernel)) ggX2_at_X2_hasCell
theorem dX2_at_0 : decode cX2_at 0 = .ok (.aload_n 0, 1) := by decide +kernel
theorem dX2_at_1 : decode cX2_at 1 = .ok (.iload_n 1, 1) := by decide +kernel
theorem dX2_at_2 : decode cX2_at 2 = .ok (.invokevirtual 28, 3) := by decide +kernel
theorem dX2_at_5 : decode cX2_at 5 = .ok (.ifCond .eq 12, 3) := by decide +kernel
theorem dX2_at_8 : decode cX2_at 8 = .ok (.aload_n 0, 1) := by decide +kernel
theorem dX2_at_9 : decode cX2_at 9 = .ok (.getfield 9, 3) := by decide +kernel
theorem dX2_at_12 : decode cX2_at 12 = .ok (.iload_n 1, 1) := by decide +kernel
theorem dX2_at_13 : decode cX2_at 13 = .ok (.iaload, 1) := by decide +kernel
theorem dX2_at_14 : decode cX2_at 14 = .ok (.goto 4, 3) := by decide +kernel
theorem dX2_at_17 : decode cX2_at 17 = .ok (.iconst 0, 1) := by decide +kernel
theorem dX2_at_18 : decode cX2_at 18 = .ok (.ireturn, 1) := by decide +kernel
set_option maxRecDepth 20000 in
theorem ggX2_write_X2_hasCell : GoodIn wsX2_write wsX2_hasCell := goodIn_r _ [6, 7, 13, 14, 15] (by decide +kernel) (by decide +kernel)
set_option maxRecDepth 20000 in
theorem gX2_write_X2_hasCell : GoodIn wsX2_write (wsV RX2 28 RX2 yX2_hasCell wsX2_hasCell) := goodIn_app (goodIn_of _ (by decide +kernel)) ggX2_write_X2_hasCell
set_option maxRecDepth 20000 in
theorem ggX2_write_X2_cut : GoodIn wsX2_write wsX2_cut := goodIn_r _ [11, 12, 13, 14, 15] (by decide +kernel) (by decide +kernel)
set_option maxRecDepth 20000 in
theorem gX2_write_X2_cut : GoodIn wsX2_write (wsV RX2 32 RX2 yX2_cut wsX2_cut) := goodIn_app (goodIn_of _ (by decide +kernel)) ggX2_write_X2_cut
theorem dX2_write_0 : decode cX2_write 0 = .ok (.aload_n 0, 1) := by decide +kernel
theorem dX2_write_1 : decode cX2_write 1 = .ok (.iload_n 1, 1) := by decide +kernel
theorem dX2_write_2 : decode cX2_write 2 = .ok (.invokevirtual 28, 3) := by decide +kernel
theorem dX2_write_5 : decode cX2_write 5 = .ok (.ifCond .eq 14, 3) := by decide +kernel
theorem dX2_write_8 : decode cX2_write 8 = .ok (.aload_n 0, 1) := by decide +kernel
theorem dX2_write_9 : decode cX2_write 9 = .ok (.getfield 9, 3) := by decide +kernel
theorem dX2_write_12 : decode cX2_write 12 = .ok (.iload_n 1, 1) := by decide +kernel
theorem dX2_write_13 : decode cX2_write 13 = .ok (.aload_n 0, 1) := by decide +kernel
theorem dX2_write_14 : decode cX2_write 14 = .ok (.iload_n 2, 1) := by decide +kernel
theorem dX2_write_15 : decode cX2_write 15 = .ok (.invokevirtual 32, 3) := by decide +kernel
theorem dX2_write_18 : decode cX2_write 18 = .ok (.iastore, 1) := by decide +kernel
theorem dX2_write_19 : decode cX2_write 19 = .ok (.return_, 1) := by decide +kernel
set_option maxRecDepth 20000 in
theorem ggX2_takeCells_X2_hasCells : GoodIn wsX2_takeCells wsX2_hasCells := goodIn_r _ [10, 11, 12, 13, 14] (by decide +kernel) (by decide +kernel)
set_option maxRecDepth 20000 in
theorem gX2_takeCells_X2_hasCells : GoodIn wsX2_takeCells (wsV RX2 36 RX2 yX2_hasCells wsX2_hasCells) := goodIn_app (goodIn_of _ (by decide +kernel)) ggX2_takeCells_X2_hasCells
theorem dX2_takeCells_0 : decode cX2_takeCells 0 = .ok (.aload_n 0, 1) := by decide +kernel
theorem dX2_takeCells_1 : decode cX2_takeCells 1 = .ok (.iload_n 1, 1) := by decide +kernel
theorem dX2_takeCells_2 : decode cX2_takeCells 2 = .ok (.iload 4, 2) := by decide +kernel
theorem dX2_takeCells_4 : decode cX2_takeCells 4 = .ok (.invokevirtual 36, 3) := by decide +kernel
theorem dX2_takeCells_7 : decode cX2_takeCells 7 = .ok (.ifCond .eq 28, 3) := by decide +kernel
theorem dX2_takeCells_10 : decode cX2_takeCells 10 = .ok (.aload_n 2, 1) := by decide +kernel
theorem dX2_takeCells_11 : decode cX2_takeCells 11 = .ok (.iload_n 3, 1) := by decide +kernel
theorem dX2_takeCells_12 : decode cX2_takeCells 12 = .ok (.iload 4, 2) := by decide +kernel
theorem dX2_takeCells_14 : decode cX2_takeCells 14 = .ok (.invokevirtual 36, 3) := by decide +kernel
theorem dX2_takeCells_17 : decode cX2_takeCells 17 = .ok (.ifCond .eq 18, 3) := by decide +kernel
theorem dX2_takeCells_20 : decode cX2_takeCells 20 = .ok (.aload_n 2, 1) := by decide +kernel
theorem dX2_takeCells_21 : decode cX2_takeCells 21 = .ok (.getfield 9, 3) := by decide +kernel
theorem dX2_takeCells_24 : decode cX2_takeCells 24 = .ok (.iload_n 3, 1) := by decide +kernel
theorem dX2_takeCells_25 : decode cX2_takeCells 25 = .ok (.aload_n 0, 1) := by decide +kernel
theorem dX2_takeCells_26 : decode cX2_takeCells 26 = .ok (.getfield 9, 3) := by decide +kernel
theorem dX2_takeCells_29 : decode cX2_takeCells 29 = .ok (.iload_n 1, 1) := by decide +kernel
theorem dX2_takeCells_30 : decode cX2_takeCells 30 = .ok (.iload 4, 2) := by decide +kernel
theorem dX2_takeCells_32 : decode cX2_takeCells 32 = .ok (.invokestatic 40, 3) := by decide +kernel
theorem dX2_takeCells_35 : decode cX2_takeCells 35 = .ok (.return_, 1) := by decide +kernel
theorem dX2_cut_0 : decode cX2_cut 0 = .ok (.aload_n 0, 1) := by decide +kernel
theorem dX2_cut_1 : decode cX2_cut 1 = .ok (.getfield 15, 3) := by decide +kernel
theorem dX2_cut_4 : decode cX2_cut 4 = .ok (.lookupswitch 34 #[(0, 28), (1, 31)], 28) := by decide +kernel
theorem dX2_cut_32 : decode cX2_cut 32 = .ok (.iload_n 1, 1) := by decide +kernel
theorem dX2_cut_33 : decode cX2_cut 33 = .ok (.i2b, 1) := by decide +kernel
theorem dX2_cut_34 : decode cX2_cut 34 = .ok (.ireturn, 1) := by decide +kernel
theorem dX2_cut_35 : decode cX2_cut 35 = .ok (.iload_n 1, 1) := by decide +kernel
theorem dX2_cut_36 : decode cX2_cut 36 = .ok (.i2s, 1) := by decide +kernel
theorem dX2_cut_37 : decode cX2_cut 37 = .ok (.ireturn, 1) := by decide +kernel
theorem dX2_cut_38 : decode cX2_cut 38 = .ok (.iload_n 1, 1) := by decide +kernel
theorem dX2_cut_39 : decode cX2_cut 39 = .ok (.ireturn, 1) := by decide +kernel
theorem dX3_init_0 : decode cX3_init 0 = .ok (.aload_n 0, 1) := by decide +kernel
theorem dX3_init_1 : decode cX3_init 1 = .ok (.invokespecial 3, 3) := by decide +kernel
theorem dX3_init_4 : decode cX3_init 4 = .ok (.aload_n 0, 1) := by decide +kernel
theorem dX3_init_5 : decode cX3_init 5 = .ok (.bipush 20, 2) := by decide +kernel
theorem dX3_init_7 : decode cX3_init 7 = .ok (.newarray .int, 2) := by decide +kernel
theorem dX3_init_9 : decode cX3_init 9 = .ok (.putfield 9, 3) := by decide +kernel
theorem dX3_init_12 : decode cX3_init 12 = .ok (.aload_n 0, 1) := by decide +kernel
theorem dX3_init_13 : decode cX3_init 13 = .ok (.bipush 20, 2) := by decide +kernel
theorem dX3_init_15 : decode cX3_init 15 = .ok (.newarray .int, 2) := by decide +kernel
theorem dX3_init_17 : decode cX3_init 17 = .ok (.putfield 15, 3) := by decide +kernel
theorem dX3_init_20 : decode cX3_init 20 = .ok (.aload_n 0, 1) := by decide +kernel
theorem dX3_init_21 : decode cX3_init 21 = .ok (.iconst 0, 1) := by decide +kernel
theorem dX3_init_22 : decode cX3_init 22 = .ok (.putfield 18, 3) := by decide +kernel
theorem dX3_init_25 : decode cX3_init 25 = .ok (.return_, 1) := by decide +kernel
set_option maxRecDepth 20000 in
theorem ggX3_load_X2_at : GoodIn wsX3_load wsX2_at := goodIn_r _ [12, 13, 14, 15, 16, 11, 17, 18, 22, 23, 24] (by decide +kernel) (by decide +kernel)
set_option maxRecDepth 20000 in
theorem gX3_load_X2_at : GoodIn wsX3_load (wsV RX3 28 RX2 yX2_at wsX2_at) := goodIn_app (goodIn_of _ (by decide +kernel)) ggX3_load_X2_at
theorem dX3_load_0 : decode cX3_load 0 = .ok (.aload_n 0, 1) := by decide +kernel
theorem dX3_load_1 : decode cX3_load 1 = .ok (.iload_n 3, 1) := by decide +kernel
theorem dX3_load_2 : decode cX3_load 2 = .ok (.bipush 20, 2) := by decide +kernel
theorem dX3_load_4 : decode cX3_load 4 = .ok (.invokestatic 22, 3) := by decide +kernel
theorem dX3_load_7 : decode cX3_load 7 = .ok (.putfield 18, 3) := by decide +kernel
theorem dX3_load_10 : decode cX3_load 10 = .ok (.iconst 0, 1) := by decide +kernel
theorem dX3_load_11 : decode cX3_load 11 = .ok (.istore 4, 2) := by decide +kernel
theorem dX3_load_13 : decode cX3_load 13 = .ok (.iload 4, 2) := by decide +kernel
theorem dX3_load_15 : decode cX3_load 15 = .ok (.aload_n 0, 1) := by decide +kernel
theorem dX3_load_16 : decode cX3_load 16 = .ok (.getfield 18, 3) := by decide +kernel
theorem dX3_load_19 : decode cX3_load 19 = .ok (.if_icmp .ge 45, 3) := by decide +kernel
theorem dX3_load_22 : decode cX3_load 22 = .ok (.aload_n 0, 1) := by decide +kernel
theorem dX3_load_23 : decode cX3_load 23 = .ok (.getfield 9, 3) := by decide +kernel
theorem dX3_load_26 : decode cX3_load 26 = .ok (.iload 4, 2) := by decide +kernel
theorem dX3_load_28 : decode cX3_load 28 = .ok (.aload_n 1, 1) := by decide +kernel
theorem dX3_load_29 : decode cX3_load 29 = .ok (.iload_n 2, 1) := by decide +kernel
theorem dX3_load_30 : decode cX3_load 30 = .ok (.iconst 2, 1) := by decide +kernel
theorem dX3_load_31 : decode cX3_load 31 = .ok (.iload 4, 2) := by decide +kernel
theorem dX3_load_33 : decode cX3_load 33 = .ok (.imul, 1) := by decide +kernel
theorem dX3_load_34 : decode cX3_load 34 = .ok (.iadd, 1) := by decide +kernel
theorem dX3_load_35 : decode cX3_load 35 = .ok (.invokevirtual 28, 3) := by decide +kernel
theorem dX3_load_38 : decode cX3_load 38 = .ok (.iastore, 1) := by decide +kernel
theorem dX3_load_39 : decode cX3_load 39 = .ok (.aload_n 0, 1) := by decide +kernel
theorem dX3_load_40 : decode cX3_load 40 = .ok (.getfield 15, 3) := by decide +kernel
theorem dX3_load_43 : decode cX3_load 43 = .ok (.iload 4, 2) := by decide +kernel
theorem dX3_load_45 : decode cX3_load 45 = .ok (.aload_n 1, 1) := by decide +kernel
theorem dX3_load_46 : decode cX3_load 46 = .ok (.iload_n 2, 1) := by decide +kernel
theorem dX3_load_47 : decode cX3_load 47 = .ok (.iconst 2, 1) := by decide +kernel
theorem dX3_load_48 : decode cX3_load 48 = .ok (.iload 4, 2) := by decide +kernel
theorem dX3_load_50 : decode cX3_load 50 = .ok (.imul, 1) := by decide +kernel
theorem dX3_load_51 : decode cX3_load 51 = .ok (.iadd, 1) := by decide +kernel
theorem dX3_load_52 : decode cX3_load 52 = .ok (.iconst 1, 1) := by decide +kernel
theorem dX3_load_53 : decode cX3_load 53 = .ok (.iadd, 1) := by decide +kernel
theorem dX3_load_54 : decode cX3_load 54 = .ok (.invokevirtual 28, 3) := by decide +kernel
theorem dX3_load_57 : decode cX3_load 57 = .ok (.iastore, 1) := by decide +kernel
theorem dX3_load_58 : decode cX3_load 58 = .ok (.iinc 4 1, 3) := by decide +kernel
theorem dX3_load_61 : decode cX3_load 61 = .ok (.goto (-48), 3) := by decide +kernel
theorem dX3_load_64 : decode cX3_load 64 = .ok (.return_, 1) := by decide +kernel
theorem dX3_howMany_0 : decode cX3_howMany 0 = .ok (.aload_n 0, 1) := by decide +kernel
theorem dX3_howMany_1 : decode cX3_howMany 1 = .ok (.getfield 18, 3) := by decide +kernel
theorem dX3_howMany_4 : decode cX3_howMany 4 = .ok (.ireturn, 1) := by decide +kernel
set_option maxRecDepth 20000 in
theorem ggX3_refusal_X0_hasPass : GoodIn wsX3_refusal wsX0_hasPass := goodIn_r _ [8, 9, 19, 20, 21, 22, 23] (by decide +kernel) (by decide +kernel)
set_option maxRecDepth 20000 in
theorem gX3_refusal_X0_hasPass : GoodIn wsX3_refusal (wsV RX3 34 RX0 yX0_hasPass wsX0_hasPass) := goodIn_app (goodIn_of _ (by decide +kernel)) ggX3_refusal_X0_hasPass
set_option maxRecDepth 20000 in
theorem ggX3_refusal_X4_isMonths : GoodIn wsX3_refusal wsX4_isMonths := goodIn_r _ [12, 13, 14, 11, 15] (by decide +kernel) (by decide +kernel)
set_option maxRecDepth 20000 in
theorem gX3_refusal_X4_isMonths_n40 : GoodIn wsX3_refusal (wsX4_isMonths) := ggX3_refusal_X4_isMonths
theorem dX3_refusal_0 : decode cX3_refusal 0 = .ok (.iconst 0, 1) := by decide +kernel
theorem dX3_refusal_1 : decode cX3_refusal 1 = .ok (.istore_n 2, 1) := by decide +kernel
theorem dX3_refusal_2 : decode cX3_refusal 2 = .ok (.iload_n 2, 1) := by decide +kernel
theorem dX3_refusal_3 : decode cX3_refusal 3 = .ok (.aload_n 0, 1) := by decide +kernel
theorem dX3_refusal_4 : decode cX3_refusal 4 = .ok (.getfield 18, 3) := by decide +kernel
theorem dX3_refusal_7 : decode cX3_refusal 7 = .ok (.if_icmp .ge 39, 3) := by decide +kernel
theorem dX3_refusal_10 : decode cX3_refusal 10 = .ok (.aload_n 1, 1) := by decide +kernel
theorem dX3_refusal_11 : decode cX3_refusal 11 = .ok (.aload_n 0, 1) := by decide +kernel
theorem dX3_refusal_12 : decode cX3_refusal 12 = .ok (.getfield 9, 3) := by decide +kernel
theorem dX3_refusal_15 : decode cX3_refusal 15 = .ok (.iload_n 2, 1) := by decide +kernel
theorem dX3_refusal_16 : decode cX3_refusal 16 = .ok (.iaload, 1) := by decide +kernel
theorem dX3_refusal_17 : decode cX3_refusal 17 = .ok (.invokevirtual 34, 3) := by decide +kernel
theorem dX3_refusal_20 : decode cX3_refusal 20 = .ok (.ifCond .ne 5, 3) := by decide +kernel
theorem dX3_refusal_23 : decode cX3_refusal 23 = .ok (.iconst (-1), 1) := by decide +kernel
theorem dX3_refusal_24 : decode cX3_refusal 24 = .ok (.ireturn, 1) := by decide +kernel
theorem dX3_refusal_25 : decode cX3_refusal 25 = .ok (.aload_n 0, 1) := by decide +kernel
theorem dX3_refusal_26 : decode cX3_refusal 26 = .ok (.getfield 15, 3) := by decide +kernel
theorem dX3_refusal_29 : decode cX3_refusal 29 = .ok (.iload_n 2, 1) := by decide +kernel
theorem dX3_refusal_30 : decode cX3_refusal 30 = .ok (.iaload, 1) := by decide +kernel
theorem dX3_refusal_31 : decode cX3_refusal 31 = .ok (.invokestatic 40, 3) := by decide +kernel
theorem dX3_refusal_34 : decode cX3_refusal 34 = .ok (.ifCond .ne 6, 3) := by decide +kernel
theorem dX3_refusal_37 : decode cX3_refusal 37 = .ok (.bipush (-2), 2) := by decide +kernel
theorem dX3_refusal_39 : decode cX3_refusal 39 = .ok (.ireturn, 1) := by decide +kernel
theorem dX3_refusal_40 : decode cX3_refusal 40 = .ok (.iinc 2 1, 3) := by decide +kernel
theorem dX3_refusal_43 : decode cX3_refusal 43 = .ok (.goto (-41), 3) := by decide +kernel
theorem dX3_refusal_46 : decode cX3_refusal 46 = .ok (.iconst 0, 1) := by decide +kernel
theorem dX3_refusal_47 : decode cX3_refusal 47 = .ok (.ireturn, 1) := by decide +kernel
theorem dX3_firstWrongPair_0 : decode cX3_firstWrongPair 0 = .ok (.iconst 1, 1) := by decide +kernel
theorem dX3_firstWrongPair_1 : decode cX3_firstWrongPair 1 = .ok (.istore_n 1, 1) := by decide +kernel
theorem dX3_firstWrongPair_2 : decode cX3_firstWrongPair 2 = .ok (.iload_n 1, 1) := by decide +kernel
theorem dX3_firstWrongPair_3 : decode cX3_firstWrongPair 3 = .ok (.aload_n 0, 1) := by decide +kernel
theorem dX3_firstWrongPair_4 : decode cX3_firstWrongPair 4 = .ok (.getfield 18, 3) := by decide +kernel
theorem dX3_firstWrongPair_7 : decode cX3_firstWrongPair 7 = .ok (.if_icmp .ge 28, 3) := by decide +kernel
theorem dX3_firstWrongPair_10 : decode cX3_firstWrongPair 10 = .ok (.aload_n 0, 1) := by decide +kernel
theorem dX3_firstWrongPair_11 : decode cX3_firstWrongPair 11 = .ok (.getfield 15, 3) := by decide +kernel
theorem dX3_firstWrongPair_14 : decode cX3_firstWrongPair 14 = .ok (.iload_n 1, 1) := by decide +kernel
theorem dX3_firstWrongPair_15 : decode cX3_firstWrongPair 15 = .ok (.iaload, 1) := by decide +kernel
theorem dX3_firstWrongPair_16 : decode cX3_firstWrongPair 16 = .ok (.aload_n 0, 1) := by decide +kernel
theorem dX3_firstWrongPair_17 : decode cX3_firstWrongPair 17 = .ok (.getfield 15, 3) := by decide +kernel
theorem dX3_firstWrongPair_20 : decode cX3_firstWrongPair 20 = .ok (.iload_n 1, 1) := by decide +kernel
theorem dX3_firstWrongPair_21 : decode cX3_firstWrongPair 21 = .ok (.iconst 1, 1) := by decide +kernel
theorem dX3_firstWrongPair_22 : decode cX3_firstWrongPair 22 = .ok (.isub, 1) := by decide +kernel
theorem dX3_firstWrongPair_23 : decode cX3_firstWrongPair 23 = .ok (.iaload, 1) := by decide +kernel
theorem dX3_firstWrongPair_24 : decode cX3_firstWrongPair 24 = .ok (.if_icmp .ge 5, 3) := by decide +kernel
theorem dX3_firstWrongPair_27 : decode cX3_firstWrongPair 27 = .ok (.iload_n 1, 1) := by decide +kernel
theorem dX3_firstWrongPair_28 : decode cX3_firstWrongPair 28 = .ok (.ireturn, 1) := by decide +kernel
theorem dX3_firstWrongPair_29 : decode cX3_firstWrongPair 29 = .ok (.iinc 1 1, 3) := by decide +kernel
theorem dX3_firstWrongPair_32 : decode cX3_firstWrongPair 32 = .ok (.goto (-30), 3) := by decide +kernel
theorem dX3_firstWrongPair_35 : decode cX3_firstWrongPair 35 = .ok (.bipush (-9), 2) := by decide +kernel
theorem dX3_firstWrongPair_37 : decode cX3_firstWrongPair 37 = .ok (.ireturn, 1) := by decide +kernel
set_option maxRecDepth 20000 in
theorem ggX3_takenBy_X0_fitting : GoodIn wsX3_takenBy wsX0_fitting := goodIn_r _ [8, 9, 10, 11, 12, 13, 7, 14, 15, 16, 17, 18, 19, 20, 21, 22, 23, 24, 25, 26, 27, 28, 29, 30, 31, 32, 33, 34, 35, 36, 37, 38, 39, 40, 41, 45, 46, 47, 48, 49] (by decide +kernel) (by decide +kernel)
set_option maxRecDepth 20000 in
theorem gX3_takenBy_X0_fitting : GoodIn wsX3_takenBy (wsV RX3 43 RX0 yX0_fitting wsX0_fitting) := goodIn_app (goodIn_of _ (by decide +kernel)) ggX3_takenBy_X0_fitting
set_option maxRecDepth 20000 in
theorem ggX3_takenBy_X4_bitIf : GoodIn wsX3_takenBy wsX4_bitIf := goodIn_r _ [41] (by decide +kernel) (by decide +kernel)
set_option maxRecDepth 20000 in
theorem gX3_takenBy_X4_bitIf_n46 : GoodIn wsX3_takenBy (wsX4_bitIf) := ggX3_takenBy_X4_bitIf
theorem dX3_takenBy_0 : decode cX3_takenBy 0 = .ok (.iconst 0, 1) := by decide +kernel
theorem dX3_takenBy_1 : decode cX3_takenBy 1 = .ok (.istore_n 3, 1) := by decide +kernel
theorem dX3_takenBy_2 : decode cX3_takenBy 2 = .ok (.iconst 0, 1) := by decide +kernel
theorem dX3_takenBy_3 : decode cX3_takenBy 3 = .ok (.istore 4, 2) := by decide +kernel
theorem dX3_takenBy_5 : decode cX3_takenBy 5 = .ok (.iload 4, 2) := by decide +kernel
theorem dX3_takenBy_7 : decode cX3_takenBy 7 = .ok (.aload_n 0, 1) := by decide +kernel
theorem dX3_takenBy_8 : decode cX3_takenBy 8 = .ok (.getfield 18, 3) := by decide +kernel
theorem dX3_takenBy_11 : decode cX3_takenBy 11 = .ok (.if_icmp .ge 45, 3) := by decide +kernel
theorem dX3_takenBy_14 : decode cX3_takenBy 14 = .ok (.iload_n 3, 1) := by decide +kernel
theorem dX3_takenBy_15 : decode cX3_takenBy 15 = .ok (.aload_n 1, 1) := by decide +kernel
theorem dX3_takenBy_16 : decode cX3_takenBy 16 = .ok (.aload_n 0, 1) := by decide +kernel
theorem dX3_takenBy_17 : decode cX3_takenBy 17 = .ok (.getfield 9, 3) := by decide +kernel
theorem dX3_takenBy_20 : decode cX3_takenBy 20 = .ok (.iload 4, 2) := by decide +kernel
theorem dX3_takenBy_22 : decode cX3_takenBy 22 = .ok (.iaload, 1) := by decide +kernel
theorem dX3_takenBy_23 : decode cX3_takenBy 23 = .ok (.aload_n 0, 1) := by decide +kernel
theorem dX3_takenBy_24 : decode cX3_takenBy 24 = .ok (.getfield 15, 3) := by decide +kernel
theorem dX3_takenBy_27 : decode cX3_takenBy 27 = .ok (.iload 4, 2) := by decide +kernel
theorem dX3_takenBy_29 : decode cX3_takenBy 29 = .ok (.iaload, 1) := by decide +kernel
theorem dX3_takenBy_30 : decode cX3_takenBy 30 = .ok (.invokevirtual 43, 3) := by decide +kernel
theorem dX3_takenBy_33 : decode cX3_takenBy 33 = .ok (.iload_n 2, 1) := by decide +kernel
theorem dX3_takenBy_34 : decode cX3_takenBy 34 = .ok (.iand, 1) := by decide +kernel
theorem dX3_takenBy_35 : decode cX3_takenBy 35 = .ok (.ifCond .ne 7, 3) := by decide +kernel
theorem dX3_takenBy_38 : decode cX3_takenBy 38 = .ok (.iconst 1, 1) := by decide +kernel
theorem dX3_takenBy_39 : decode cX3_takenBy 39 = .ok (.goto 4, 3) := by decide +kernel
theorem dX3_takenBy_42 : decode cX3_takenBy 42 = .ok (.iconst 0, 1) := by decide +kernel
theorem dX3_takenBy_43 : decode cX3_takenBy 43 = .ok (.iload 4, 2) := by decide +kernel
theorem dX3_takenBy_45 : decode cX3_takenBy 45 = .ok (.invokestatic 46, 3) := by decide +kernel
theorem dX3_takenBy_48 : decode cX3_takenBy 48 = .ok (.ior, 1) := by decide +kernel
theorem dX3_takenBy_49 : decode cX3_takenBy 49 = .ok (.istore_n 3, 1) := by decide +kernel
theorem dX3_takenBy_50 : decode cX3_takenBy 50 = .ok (.iinc 4 1, 3) := by decide +kernel
theorem dX3_takenBy_53 : decode cX3_takenBy 53 = .ok (.goto (-48), 3) := by decide +kernel
theorem dX3_takenBy_56 : decode cX3_takenBy 56 = .ok (.iload_n 3, 1) := by decide +kernel
theorem dX3_takenBy_57 : decode cX3_takenBy 57 = .ok (.ireturn, 1) := by decide +kernel
theorem dX3_firstOf_0 : decode cX3_firstOf 0 = .ok (.iconst 0, 1) := by decide +kernel
theorem dX3_firstOf_1 : decode cX3_firstOf 1 = .ok (.istore_n 2, 1) := by decide +kernel
theorem dX3_firstOf_2 : decode cX3_firstOf 2 = .ok (.iload_n 2, 1) := by decide +kernel
theorem dX3_firstOf_3 : decode cX3_firstOf 3 = .ok (.aload_n 0, 1) := by decide +kernel
theorem dX3_firstOf_4 : decode cX3_firstOf 4 = .ok (.getfield 18, 3) := by decide +kernel
theorem dX3_firstOf_7 : decode cX3_firstOf 7 = .ok (.if_icmp .ge 19, 3) := by decide +kernel
theorem dX3_firstOf_10 : decode cX3_firstOf 10 = .ok (.iload_n 1, 1) := by decide +kernel
theorem dX3_firstOf_11 : decode cX3_firstOf 11 = .ok (.iconst 1, 1) := by decide +kernel
theorem dX3_firstOf_12 : decode cX3_firstOf 12 = .ok (.iload_n 2, 1) := by decide +kernel
