set_option maxRecDepth 20000 in
theorem ggX1_init_X1_right : GoodIn wsX1_init wsX1_right := goodIn_r _ [15, 8] (by decide +kernel) (by decide +kernel)
set_option maxRecDepth 20000 in
theorem gX1_init_X1_right : GoodIn wsX1_init (va_wsS RX1 7 yX1_right wsX1_right) := goodIn_app (goodIn_of _ (by decide +kernel)) ggX1_init_X1_right
set_option maxRecDepth 20000 in
theorem ggX1_init_X1_turnRow : GoodIn wsX1_init wsX1_turnRow := goodIn_r _ [18, 19, 20, 14, 21, 22, 23, 12, 13, 15, 8, 24, 25, 26, 27, 28, 29] (by decide +kernel) (by decide +kernel)
set_option maxRecDepth 20000 in
theorem gX1_init_X1_turnRow : GoodIn wsX1_init (va_wsS RX1 32 yX1_turnRow wsX1_turnRow) := goodIn_app (goodIn_of _ (by decide +kernel)) ggX1_init_X1_turnRow
theorem dX1_init_0 : decode cX1_init 0 = .ok (.aload_n 0, 1) := by decide +kernel
theorem dX1_init_1 : decode cX1_init 1 = .ok (.invokespecial 1, 3) := by decide +kernel
theorem dX1_init_4 : decode cX1_init 4 = .ok (.aload_n 0, 1) := by decide +kernel
theorem dX1_init_5 : decode cX1_init 5 = .ok (.invokestatic 7, 3) := by decide +kernel
theorem dX1_init_8 : decode cX1_init 8 = .ok (.putfield 13, 3) := by decide +kernel
theorem dX1_init_11 : decode cX1_init 11 = .ok (.aload_n 0, 1) := by decide +kernel
theorem dX1_init_12 : decode cX1_init 12 = .ok (.bipush 9, 2) := by decide +kernel
theorem dX1_init_14 : decode cX1_init 14 = .ok (.anewarray 17, 3) := by decide +kernel
theorem dX1_init_17 : decode cX1_init 17 = .ok (.putfield 18, 3) := by decide +kernel
theorem dX1_init_20 : decode cX1_init 20 = .ok (.aload_n 0, 1) := by decide +kernel
theorem dX1_init_21 : decode cX1_init 21 = .ok (.bipush 6, 2) := by decide +kernel
theorem dX1_init_23 : decode cX1_init 23 = .ok (.bipush 16, 2) := by decide +kernel
theorem dX1_init_25 : decode cX1_init 25 = .ok (.multianewarray 22 2, 4) := by decide +kernel
theorem dX1_init_29 : decode cX1_init 29 = .ok (.putfield 23, 3) := by decide +kernel
theorem dX1_init_32 : decode cX1_init 32 = .ok (.aload_n 0, 1) := by decide +kernel
theorem dX1_init_33 : decode cX1_init 33 = .ok (.iconst 5, 1) := by decide +kernel
theorem dX1_init_34 : decode cX1_init 34 = .ok (.newarray .int, 2) := by decide +kernel
theorem dX1_init_36 : decode cX1_init 36 = .ok (.putfield 26, 3) := by decide +kernel
theorem dX1_init_39 : decode cX1_init 39 = .ok (.aload_n 0, 1) := by decide +kernel
theorem dX1_init_40 : decode cX1_init 40 = .ok (.bipush 60, 2) := by decide +kernel
theorem dX1_init_42 : decode cX1_init 42 = .ok (.newarray .int, 2) := by decide +kernel
theorem dX1_init_44 : decode cX1_init 44 = .ok (.putfield 29, 3) := by decide +kernel
theorem dX1_init_47 : decode cX1_init 47 = .ok (.iconst 0, 1) := by decide +kernel
theorem dX1_init_48 : decode cX1_init 48 = .ok (.istore_n 1, 1) := by decide +kernel
theorem dX1_init_49 : decode cX1_init 49 = .ok (.iload_n 1, 1) := by decide +kernel
theorem dX1_init_50 : decode cX1_init 50 = .ok (.bipush 9, 2) := by decide +kernel
theorem dX1_init_52 : decode cX1_init 52 = .ok (.if_icmp .ge 19, 3) := by decide +kernel
theorem dX1_init_55 : decode cX1_init 55 = .ok (.aload_n 0, 1) := by decide +kernel
theorem dX1_init_56 : decode cX1_init 56 = .ok (.getfield 18, 3) := by decide +kernel
theorem dX1_init_59 : decode cX1_init 59 = .ok (.iload_n 1, 1) := by decide +kernel
theorem dX1_init_60 : decode cX1_init 60 = .ok (.iload_n 1, 1) := by decide +kernel
theorem dX1_init_61 : decode cX1_init 61 = .ok (.invokestatic 32, 3) := by decide +kernel
theorem dX1_init_64 : decode cX1_init 64 = .ok (.aastore, 1) := by decide +kernel
theorem dX1_init_65 : decode cX1_init 65 = .ok (.iinc 1 1, 3) := by decide +kernel
theorem dX1_init_68 : decode cX1_init 68 = .ok (.goto (-19), 3) := by decide +kernel
theorem dX1_init_71 : decode cX1_init 71 = .ok (.return_, 1) := by decide +kernel
theorem dX1_thrown_0 : decode cX1_thrown 0 = .ok (.aload_n 0, 1) := by decide +kernel
theorem dX1_thrown_1 : decode cX1_thrown 1 = .ok (.getfield 36, 3) := by decide +kernel
theorem dX1_thrown_4 : decode cX1_thrown 4 = .ok (.ireturn, 1) := by decide +kernel
theorem dX1_no_0 : decode cX1_no 0 = .ok (.aload_n 0, 1) := by decide +kernel
theorem dX1_no_1 : decode cX1_no 1 = .ok (.iload_n 1, 1) := by decide +kernel
theorem dX1_no_2 : decode cX1_no 2 = .ok (.putfield 36, 3) := by decide +kernel
theorem dX1_no_5 : decode cX1_no 5 = .ok (.iconst 0, 1) := by decide +kernel
theorem dX1_no_6 : decode cX1_no 6 = .ok (.ireturn, 1) := by decide +kernel
theorem dX1_isIn_0 : decode cX1_isIn 0 = .ok (.iload_n 0, 1) := by decide +kernel
theorem dX1_isIn_1 : decode cX1_isIn 1 = .ok (.iload_n 1, 1) := by decide +kernel
theorem dX1_isIn_2 : decode cX1_isIn 2 = .ok (.if_icmp .lt 12, 3) := by decide +kernel
theorem dX1_isIn_5 : decode cX1_isIn 5 = .ok (.iload_n 0, 1) := by decide +kernel
theorem dX1_isIn_6 : decode cX1_isIn 6 = .ok (.iload_n 2, 1) := by decide +kernel
theorem dX1_isIn_7 : decode cX1_isIn 7 = .ok (.if_icmp .gt 7, 3) := by decide +kernel
theorem dX1_isIn_10 : decode cX1_isIn 10 = .ok (.iconst 1, 1) := by decide +kernel
theorem dX1_isIn_11 : decode cX1_isIn 11 = .ok (.goto 4, 3) := by decide +kernel
theorem dX1_isIn_14 : decode cX1_isIn 14 = .ok (.iconst 0, 1) := by decide +kernel
theorem dX1_isIn_15 : decode cX1_isIn 15 = .ok (.ireturn, 1) := by decide +kernel
set_option maxRecDepth 20000 in
theorem ggX1_isWord_X1_isIn : GoodIn wsX1_isWord wsX1_isIn := goodIn_r _ [4] (by decide +kernel) (by decide +kernel)
set_option maxRecDepth 20000 in
theorem gX1_isWord_X1_isIn : GoodIn wsX1_isWord (va_wsS RX1 40 yX1_isIn wsX1_isIn) := goodIn_app (goodIn_of _ (by decide +kernel)) ggX1_isWord_X1_isIn
theorem dX1_isWord_0 : decode cX1_isWord 0 = .ok (.iload_n 0, 1) := by decide +kernel
theorem dX1_isWord_1 : decode cX1_isWord 1 = .ok (.iconst 0, 1) := by decide +kernel
theorem dX1_isWord_2 : decode cX1_isWord 2 = .ok (.iconst 4, 1) := by decide +kernel
theorem dX1_isWord_3 : decode cX1_isWord 3 = .ok (.invokestatic 40, 3) := by decide +kernel
theorem dX1_isWord_6 : decode cX1_isWord 6 = .ok (.ireturn, 1) := by decide +kernel
theorem dX1_right_0 : decode cX1_right 0 = .ok (.bipush 16, 2) := by decide +kernel
theorem dX1_right_2 : decode cX1_right 2 = .ok (.newarray .int, 2) := by decide +kernel
theorem dX1_right_4 : decode cX1_right 4 = .ok (.astore_n 0, 1) := by decide +kernel
theorem dX1_right_5 : decode cX1_right 5 = .ok (.iconst 0, 1) := by decide +kernel
theorem dX1_right_6 : decode cX1_right 6 = .ok (.istore_n 1, 1) := by decide +kernel
theorem dX1_right_7 : decode cX1_right 7 = .ok (.iload_n 1, 1) := by decide +kernel
theorem dX1_right_8 : decode cX1_right 8 = .ok (.bipush 8, 2) := by decide +kernel
theorem dX1_right_10 : decode cX1_right 10 = .ok (.if_icmp .ge 13, 3) := by decide +kernel
theorem dX1_right_13 : decode cX1_right 13 = .ok (.aload_n 0, 1) := by decide +kernel
theorem dX1_right_14 : decode cX1_right 14 = .ok (.iload_n 1, 1) := by decide +kernel
theorem dX1_right_15 : decode cX1_right 15 = .ok (.iload_n 1, 1) := by decide +kernel
theorem dX1_right_16 : decode cX1_right 16 = .ok (.iastore, 1) := by decide +kernel
theorem dX1_right_17 : decode cX1_right 17 = .ok (.iinc 1 1, 3) := by decide +kernel
theorem dX1_right_20 : decode cX1_right 20 = .ok (.goto (-13), 3) := by decide +kernel
theorem dX1_right_23 : decode cX1_right 23 = .ok (.aload_n 0, 1) := by decide +kernel
theorem dX1_right_24 : decode cX1_right 24 = .ok (.areturn, 1) := by decide +kernel
set_option maxRecDepth 20000 in
theorem ggX1_then_X1_into : GoodIn wsX1_then wsX1_into := goodIn_r _ [5] (by decide +kernel) (by decide +kernel)
set_option maxRecDepth 20000 in
theorem gX1_then_X1_into : GoodIn wsX1_then (va_wsS RX1 44 yX1_into wsX1_into) := goodIn_app (goodIn_of _ (by decide +kernel)) ggX1_then_X1_into
theorem dX1_then_0 : decode cX1_then 0 = .ok (.aload_n 0, 1) := by decide +kernel
theorem dX1_then_1 : decode cX1_then 1 = .ok (.aload_n 1, 1) := by decide +kernel
theorem dX1_then_2 : decode cX1_then 2 = .ok (.bipush 16, 2) := by decide +kernel
theorem dX1_then_4 : decode cX1_then 4 = .ok (.newarray .int, 2) := by decide +kernel
theorem dX1_then_6 : decode cX1_then 6 = .ok (.invokestatic 44, 3) := by decide +kernel
theorem dX1_then_9 : decode cX1_then 9 = .ok (.areturn, 1) := by decide +kernel
theorem dX1_into_0 : decode cX1_into 0 = .ok (.iconst 0, 1) := by decide +kernel
theorem dX1_into_1 : decode cX1_into 1 = .ok (.istore_n 3, 1) := by decide +kernel
theorem dX1_into_2 : decode cX1_into 2 = .ok (.iload_n 3, 1) := by decide +kernel
theorem dX1_into_3 : decode cX1_into 3 = .ok (.bipush 8, 2) := by decide +kernel
theorem dX1_into_5 : decode cX1_into 5 = .ok (.if_icmp .ge 43, 3) := by decide +kernel
theorem dX1_into_8 : decode cX1_into 8 = .ok (.aload_n 1, 1) := by decide +kernel
theorem dX1_into_9 : decode cX1_into 9 = .ok (.iload_n 3, 1) := by decide +kernel
theorem dX1_into_10 : decode cX1_into 10 = .ok (.iaload, 1) := by decide +kernel
theorem dX1_into_11 : decode cX1_into 11 = .ok (.istore 4, 2) := by decide +kernel
theorem dX1_into_13 : decode cX1_into 13 = .ok (.aload_n 2, 1) := by decide +kernel
theorem dX1_into_14 : decode cX1_into 14 = .ok (.iload_n 3, 1) := by decide +kernel
theorem dX1_into_15 : decode cX1_into 15 = .ok (.aload_n 0, 1) := by decide +kernel
theorem dX1_into_16 : decode cX1_into 16 = .ok (.iload 4, 2) := by decide +kernel
theorem dX1_into_18 : decode cX1_into 18 = .ok (.iaload, 1) := by decide +kernel
theorem dX1_into_19 : decode cX1_into 19 = .ok (.iastore, 1) := by decide +kernel
theorem dX1_into_20 : decode cX1_into 20 = .ok (.aload_n 2, 1) := by decide +kernel
theorem dX1_into_21 : decode cX1_into 21 = .ok (.bipush 8, 2) := by decide +kernel
theorem dX1_into_23 : decode cX1_into 23 = .ok (.iload_n 3, 1) := by decide +kernel
theorem dX1_into_24 : decode cX1_into 24 = .ok (.iadd, 1) := by decide +kernel
theorem dX1_into_25 : decode cX1_into 25 = .ok (.aload_n 0, 1) := by decide +kernel
theorem dX1_into_26 : decode cX1_into 26 = .ok (.bipush 8, 2) := by decide +kernel
theorem dX1_into_28 : decode cX1_into 28 = .ok (.iload 4, 2) := by decide +kernel
theorem dX1_into_30 : decode cX1_into 30 = .ok (.iadd, 1) := by decide +kernel
theorem dX1_into_31 : decode cX1_into 31 = .ok (.iaload, 1) := by decide +kernel
theorem dX1_into_32 : decode cX1_into 32 = .ok (.aload_n 1, 1) := by decide +kernel
theorem dX1_into_33 : decode cX1_into 33 = .ok (.bipush 8, 2) := by decide +kernel
theorem dX1_into_35 : decode cX1_into 35 = .ok (.iload_n 3, 1) := by decide +kernel
theorem dX1_into_36 : decode cX1_into 36 = .ok (.iadd, 1) := by decide +kernel
theorem dX1_into_37 : decode cX1_into 37 = .ok (.iaload, 1) := by decide +kernel
theorem dX1_into_38 : decode cX1_into 38 = .ok (.iadd, 1) := by decide +kernel
theorem dX1_into_39 : decode cX1_into 39 = .ok (.iconst 3, 1) := by decide +kernel
theorem dX1_into_40 : decode cX1_into 40 = .ok (.irem, 1) := by decide +kernel
theorem dX1_into_41 : decode cX1_into 41 = .ok (.iastore, 1) := by decide +kernel
theorem dX1_into_42 : decode cX1_into 42 = .ok (.iinc 3 1, 3) := by decide +kernel
theorem dX1_into_45 : decode cX1_into 45 = .ok (.goto (-43), 3) := by decide +kernel
theorem dX1_into_48 : decode cX1_into 48 = .ok (.aload_n 2, 1) := by decide +kernel
theorem dX1_into_49 : decode cX1_into 49 = .ok (.areturn, 1) := by decide +kernel
theorem dX1_back_0 : decode cX1_back 0 = .ok (.bipush 16, 2) := by decide +kernel
theorem dX1_back_2 : decode cX1_back 2 = .ok (.newarray .int, 2) := by decide +kernel
theorem dX1_back_4 : decode cX1_back 4 = .ok (.astore_n 1, 1) := by decide +kernel
theorem dX1_back_5 : decode cX1_back 5 = .ok (.iconst 0, 1) := by decide +kernel
theorem dX1_back_6 : decode cX1_back 6 = .ok (.istore_n 2, 1) := by decide +kernel
theorem dX1_back_7 : decode cX1_back 7 = .ok (.iload_n 2, 1) := by decide +kernel
theorem dX1_back_8 : decode cX1_back 8 = .ok (.bipush 8, 2) := by decide +kernel
theorem dX1_back_10 : decode cX1_back 10 = .ok (.if_icmp .ge 33, 3) := by decide +kernel
theorem dX1_back_13 : decode cX1_back 13 = .ok (.aload_n 1, 1) := by decide +kernel
theorem dX1_back_14 : decode cX1_back 14 = .ok (.aload_n 0, 1) := by decide +kernel
theorem dX1_back_15 : decode cX1_back 15 = .ok (.iload_n 2, 1) := by decide +kernel
theorem dX1_back_16 : decode cX1_back 16 = .ok (.iaload, 1) := by decide +kernel
theorem dX1_back_17 : decode cX1_back 17 = .ok (.iload_n 2, 1) := by decide +kernel
theorem dX1_back_18 : decode cX1_back 18 = .ok (.iastore, 1) := by decide +kernel
theorem dX1_back_19 : decode cX1_back 19 = .ok (.aload_n 1, 1) := by decide +kernel
theorem dX1_back_20 : decode cX1_back 20 = .ok (.bipush 8, 2) := by decide +kernel
theorem dX1_back_22 : decode cX1_back 22 = .ok (.aload_n 0, 1) := by decide +kernel
theorem dX1_back_23 : decode cX1_back 23 = .ok (.iload_n 2, 1) := by decide +kernel
theorem dX1_back_24 : decode cX1_back 24 = .ok (.iaload, 1) := by decide +kernel
theorem dX1_back_25 : decode cX1_back 25 = .ok (.iadd, 1) := by decide +kernel
theorem dX1_back_26 : decode cX1_back 26 = .ok (.iconst 3, 1) := by decide +kernel
theorem dX1_back_27 : decode cX1_back 27 = .ok (.aload_n 0, 1) := by decide +kernel
theorem dX1_back_28 : decode cX1_back 28 = .ok (.bipush 8, 2) := by decide +kernel
theorem dX1_back_30 : decode cX1_back 30 = .ok (.iload_n 2, 1) := by decide +kernel
theorem dX1_back_31 : decode cX1_back 31 = .ok (.iadd, 1) := by decide +kernel
theorem dX1_back_32 : decode cX1_back 32 = .ok (.iaload, 1) := by decide +kernel
theorem dX1_back_33 : decode cX1_back 33 = .ok (.isub, 1) := by decide +kernel
theorem dX1_back_34 : decode cX1_back 34 = .ok (.iconst 3, 1) := by decide +kernel
theorem dX1_back_35 : decode cX1_back 35 = .ok (.irem, 1) := by decide +kernel
theorem dX1_back_36 : decode cX1_back 36 = .ok (.iastore, 1) := by decide +kernel
theorem dX1_back_37 : decode cX1_back 37 = .ok (.iinc 2 1, 3) := by decide +kernel
theorem dX1_back_40 : decode cX1_back 40 = .ok (.goto (-33), 3) := by decide +kernel
theorem dX1_back_43 : decode cX1_back 43 = .ok (.aload_n 1, 1) := by decide +kernel
theorem dX1_back_44 : decode cX1_back 44 = .ok (.areturn, 1) := by decide +kernel
set_option maxRecDepth 20000 in
theorem ggX1_quarter_X1_right : GoodIn wsX1_quarter wsX1_right := goodIn_r _ [6, 7] (by decide +kernel) (by decide +kernel)
set_option maxRecDepth 20000 in
theorem gX1_quarter_X1_right : GoodIn wsX1_quarter (va_wsS RX1 7 yX1_right wsX1_right) := goodIn_app (goodIn_of _ (by decide +kernel)) ggX1_quarter_X1_right
theorem dX1_quarter_0 : decode cX1_quarter 0 = .ok (.invokestatic 7, 3) := by decide +kernel
theorem dX1_quarter_3 : decode cX1_quarter 3 = .ok (.astore_n 1, 1) := by decide +kernel
theorem dX1_quarter_4 : decode cX1_quarter 4 = .ok (.iconst 0, 1) := by decide +kernel
theorem dX1_quarter_5 : decode cX1_quarter 5 = .ok (.istore_n 2, 1) := by decide +kernel
theorem dX1_quarter_6 : decode cX1_quarter 6 = .ok (.iload_n 2, 1) := by decide +kernel
theorem dX1_quarter_7 : decode cX1_quarter 7 = .ok (.iconst 4, 1) := by decide +kernel
theorem dX1_quarter_8 : decode cX1_quarter 8 = .ok (.if_icmp .ge 44, 3) := by decide +kernel
theorem dX1_quarter_11 : decode cX1_quarter 11 = .ok (.getstatic 48, 3) := by decide +kernel
theorem dX1_quarter_14 : decode cX1_quarter 14 = .ok (.iload_n 0, 1) := by decide +kernel
theorem dX1_quarter_15 : decode cX1_quarter 15 = .ok (.aaload, 1) := by decide +kernel
theorem dX1_quarter_16 : decode cX1_quarter 16 = .ok (.iload_n 2, 1) := by decide +kernel
theorem dX1_quarter_17 : decode cX1_quarter 17 = .ok (.iconst 1, 1) := by decide +kernel
theorem dX1_quarter_18 : decode cX1_quarter 18 = .ok (.iadd, 1) := by decide +kernel
theorem dX1_quarter_19 : decode cX1_quarter 19 = .ok (.iconst 4, 1) := by decide +kernel
theorem dX1_quarter_20 : decode cX1_quarter 20 = .ok (.irem, 1) := by decide +kernel
theorem dX1_quarter_21 : decode cX1_quarter 21 = .ok (.iaload, 1) := by decide +kernel
theorem dX1_quarter_22 : decode cX1_quarter 22 = .ok (.istore_n 3, 1) := by decide +kernel
theorem dX1_quarter_23 : decode cX1_quarter 23 = .ok (.aload_n 1, 1) := by decide +kernel
theorem dX1_quarter_24 : decode cX1_quarter 24 = .ok (.iload_n 3, 1) := by decide +kernel
theorem dX1_quarter_25 : decode cX1_quarter 25 = .ok (.getstatic 48, 3) := by decide +kernel
theorem dX1_quarter_28 : decode cX1_quarter 28 = .ok (.iload_n 0, 1) := by decide +kernel
theorem dX1_quarter_29 : decode cX1_quarter 29 = .ok (.aaload, 1) := by decide +kernel
theorem dX1_quarter_30 : decode cX1_quarter 30 = .ok (.iload_n 2, 1) := by decide +kernel
theorem dX1_quarter_31 : decode cX1_quarter 31 = .ok (.iaload, 1) := by decide +kernel
theorem dX1_quarter_32 : decode cX1_quarter 32 = .ok (.iastore, 1) := by decide +kernel
theorem dX1_quarter_33 : decode cX1_quarter 33 = .ok (.aload_n 1, 1) := by decide +kernel
theorem dX1_quarter_34 : decode cX1_quarter 34 = .ok (.bipush 8, 2) := by decide +kernel
theorem dX1_quarter_36 : decode cX1_quarter 36 = .ok (.iload_n 3, 1) := by decide +kernel
theorem dX1_quarter_37 : decode cX1_quarter 37 = .ok (.iadd, 1) := by decide +kernel
theorem dX1_quarter_38 : decode cX1_quarter 38 = .ok (.getstatic 51, 3) := by decide +kernel
theorem dX1_quarter_41 : decode cX1_quarter 41 = .ok (.iload_n 0, 1) := by decide +kernel
theorem dX1_quarter_42 : decode cX1_quarter 42 = .ok (.aaload, 1) := by decide +kernel
theorem dX1_quarter_43 : decode cX1_quarter 43 = .ok (.iload_n 2, 1) := by decide +kernel
theorem dX1_quarter_44 : decode cX1_quarter 44 = .ok (.iaload, 1) := by decide +kernel
theorem dX1_quarter_45 : decode cX1_quarter 45 = .ok (.iastore, 1) := by decide +kernel
theorem dX1_quarter_46 : decode cX1_quarter 46 = .ok (.iinc 2 1, 3) := by decide +kernel
theorem dX1_quarter_49 : decode cX1_quarter 49 = .ok (.goto (-43), 3) := by decide +kernel
theorem dX1_quarter_52 : decode cX1_quarter 52 = .ok (.aload_n 1, 1) := by decide +kernel
theorem dX1_quarter_53 : decode cX1_quarter 53 = .ok (.areturn, 1) := by decide +kernel
set_option maxRecDepth 20000 in
theorem ggX1_turnRow_X1_quarter : GoodIn wsX1_turnRow wsX1_quarter := goodIn_r _ [4, 5, 6, 7, 8, 3, 9, 10] (by decide +kernel) (by decide +kernel)
set_option maxRecDepth 20000 in
theorem gX1_turnRow_X1_quarter : GoodIn wsX1_turnRow (va_wsS RX1 54 yX1_quarter wsX1_quarter) := goodIn_app (goodIn_of _ (by decide +kernel)) ggX1_turnRow_X1_quarter
set_option maxRecDepth 20000 in
theorem ggX1_turnRow_X1_then : GoodIn wsX1_turnRow wsX1_then := goodIn_r _ [13, 10, 14, 15, 3, 16] (by decide +kernel) (by decide +kernel)
set_option maxRecDepth 20000 in
theorem gX1_turnRow_X1_then : GoodIn wsX1_turnRow (va_wsS RX1 57 yX1_then wsX1_then) := goodIn_app (goodIn_of _ (by decide +kernel)) ggX1_turnRow_X1_then
theorem dX1_turnRow_0 : decode cX1_turnRow 0 = .ok (.iload_n 0, 1) := by decide +kernel
theorem dX1_turnRow_1 : decode cX1_turnRow 1 = .ok (.iconst 3, 1) := by decide +kernel
theorem dX1_turnRow_2 : decode cX1_turnRow 2 = .ok (.idiv, 1) := by decide +kernel
theorem dX1_turnRow_3 : decode cX1_turnRow 3 = .ok (.invokestatic 54, 3) := by decide +kernel
theorem dX1_turnRow_6 : decode cX1_turnRow 6 = .ok (.astore_n 1, 1) := by decide +kernel
theorem dX1_turnRow_7 : decode cX1_turnRow 7 = .ok (.iconst 0, 1) := by decide +kernel
theorem dX1_turnRow_8 : decode cX1_turnRow 8 = .ok (.istore_n 2, 1) := by decide +kernel
theorem dX1_turnRow_9 : decode cX1_turnRow 9 = .ok (.iload_n 2, 1) := by decide +kernel
theorem dX1_turnRow_10 : decode cX1_turnRow 10 = .ok (.iload_n 0, 1) := by decide +kernel
theorem dX1_turnRow_11 : decode cX1_turnRow 11 = .ok (.iconst 3, 1) := by decide +kernel
theorem dX1_turnRow_12 : decode cX1_turnRow 12 = .ok (.irem, 1) := by decide +kernel
theorem dX1_turnRow_13 : decode cX1_turnRow 13 = .ok (.if_icmp .ge 20, 3) := by decide +kernel
theorem dX1_turnRow_16 : decode cX1_turnRow 16 = .ok (.aload_n 1, 1) := by decide +kernel
theorem dX1_turnRow_17 : decode cX1_turnRow 17 = .ok (.iload_n 0, 1) := by decide +kernel
theorem dX1_turnRow_18 : decode cX1_turnRow 18 = .ok (.iconst 3, 1) := by decide +kernel
theorem dX1_turnRow_19 : decode cX1_turnRow 19 = .ok (.idiv, 1) := by decide +kernel
theorem dX1_turnRow_20 : decode cX1_turnRow 20 = .ok (.invokestatic 54, 3) := by decide +kernel
theorem dX1_turnRow_23 : decode cX1_turnRow 23 = .ok (.invokestatic 57, 3) := by decide +kernel
theorem dX1_turnRow_26 : decode cX1_turnRow 26 = .ok (.astore_n 1, 1) := by decide +kernel
theorem dX1_turnRow_27 : decode cX1_turnRow 27 = .ok (.iinc 2 1, 3) := by decide +kernel
theorem dX1_turnRow_30 : decode cX1_turnRow 30 = .ok (.goto (-21), 3) := by decide +kernel
theorem dX1_turnRow_33 : decode cX1_turnRow 33 = .ok (.aload_n 1, 1) := by decide +kernel
theorem dX1_turnRow_34 : decode cX1_turnRow 34 = .ok (.areturn, 1) := by decide +kernel
set_option maxRecDepth 20000 in
theorem ggX1_turned_X1_then : GoodIn wsX1_turned wsX1_then := goodIn_r _ [5, 6, 7, 8, 4, 9] (by decide +kernel) (by decide +kernel)
set_option maxRecDepth 20000 in
theorem gX1_turned_X1_then : GoodIn wsX1_turned (va_wsS RX1 57 yX1_then wsX1_then) := goodIn_app (goodIn_of _ (by decide +kernel)) ggX1_turned_X1_then
theorem dX1_turned_0 : decode cX1_turned 0 = .ok (.aload_n 1, 1) := by decide +kernel
theorem dX1_turned_1 : decode cX1_turned 1 = .ok (.aload_n 0, 1) := by decide +kernel
theorem dX1_turned_2 : decode cX1_turned 2 = .ok (.getfield 18, 3) := by decide +kernel
theorem dX1_turned_5 : decode cX1_turned 5 = .ok (.iload_n 2, 1) := by decide +kernel
theorem dX1_turned_6 : decode cX1_turned 6 = .ok (.aaload, 1) := by decide +kernel
theorem dX1_turned_7 : decode cX1_turned 7 = .ok (.invokestatic 57, 3) := by decide +kernel
theorem dX1_turned_10 : decode cX1_turned 10 = .ok (.areturn, 1) := by decide +kernel
set_option maxRecDepth 20000 in
theorem ggX1_rowOf_X1_right : GoodIn wsX1_rowOf wsX1_right := goodIn_r _ [6, 7] (by decide +kernel) (by decide +kernel)
set_option maxRecDepth 20000 in
theorem gX1_rowOf_X1_right : GoodIn wsX1_rowOf (va_wsS RX1 7 yX1_right wsX1_right) := goodIn_app (goodIn_of _ (by decide +kernel)) ggX1_rowOf_X1_right
set_option maxRecDepth 20000 in
theorem ggX1_rowOf_X1_turned : GoodIn wsX1_rowOf wsX1_turned := goodIn_r _ [11, 12, 13, 14, 5, 15, 7, 16, 17, 18, 19, 20, 21, 22, 23, 24, 25] (by decide +kernel) (by decide +kernel)
set_option maxRecDepth 20000 in
theorem gX1_rowOf_X1_turned : GoodIn wsX1_rowOf (wsV RX1 61 RX1 yX1_turned wsX1_turned) := goodIn_app (goodIn_of _ (by decide +kernel)) ggX1_rowOf_X1_turned
theorem dX1_rowOf_0 : decode cX1_rowOf 0 = .ok (.invokestatic 7, 3) := by decide +kernel
theorem dX1_rowOf_3 : decode cX1_rowOf 3 = .ok (.astore_n 2, 1) := by decide +kernel
theorem dX1_rowOf_4 : decode cX1_rowOf 4 = .ok (.iconst 0, 1) := by decide +kernel
theorem dX1_rowOf_5 : decode cX1_rowOf 5 = .ok (.istore_n 3, 1) := by decide +kernel
theorem dX1_rowOf_6 : decode cX1_rowOf 6 = .ok (.iload_n 3, 1) := by decide +kernel
theorem dX1_rowOf_7 : decode cX1_rowOf 7 = .ok (.aload_n 0, 1) := by decide +kernel
theorem dX1_rowOf_8 : decode cX1_rowOf 8 = .ok (.getfield 26, 3) := by decide +kernel
theorem dX1_rowOf_11 : decode cX1_rowOf 11 = .ok (.iload_n 1, 1) := by decide +kernel
theorem dX1_rowOf_12 : decode cX1_rowOf 12 = .ok (.iaload, 1) := by decide +kernel
theorem dX1_rowOf_13 : decode cX1_rowOf 13 = .ok (.if_icmp .ge 26, 3) := by decide +kernel
theorem dX1_rowOf_16 : decode cX1_rowOf 16 = .ok (.aload_n 0, 1) := by decide +kernel
theorem dX1_rowOf_17 : decode cX1_rowOf 17 = .ok (.aload_n 2, 1) := by decide +kernel
theorem dX1_rowOf_18 : decode cX1_rowOf 18 = .ok (.aload_n 0, 1) := by decide +kernel
theorem dX1_rowOf_19 : decode cX1_rowOf 19 = .ok (.getfield 29, 3) := by decide +kernel
theorem dX1_rowOf_22 : decode cX1_rowOf 22 = .ok (.bipush 12, 2) := by decide +kernel
theorem dX1_rowOf_24 : decode cX1_rowOf 24 = .ok (.iload_n 1, 1) := by decide +kernel
theorem dX1_rowOf_25 : decode cX1_rowOf 25 = .ok (.imul, 1) := by decide +kernel
theorem dX1_rowOf_26 : decode cX1_rowOf 26 = .ok (.iload_n 3, 1) := by decide +kernel
theorem dX1_rowOf_27 : decode cX1_rowOf 27 = .ok (.iadd, 1) := by decide +kernel
theorem dX1_rowOf_28 : decode cX1_rowOf 28 = .ok (.iaload, 1) := by decide +kernel
theorem dX1_rowOf_29 : decode cX1_rowOf 29 = .ok (.invokevirtual 61, 3) := by decide +kernel
theorem dX1_rowOf_32 : decode cX1_rowOf 32 = .ok (.astore_n 2, 1) := by decide +kernel
theorem dX1_rowOf_33 : decode cX1_rowOf 33 = .ok (.iinc 3 1, 3) := by decide +kernel
theorem dX1_rowOf_36 : decode cX1_rowOf 36 = .ok (.goto (-30), 3) := by decide +kernel
theorem dX1_rowOf_39 : decode cX1_rowOf 39 = .ok (.aload_n 2, 1) := by decide +kernel
theorem dX1_rowOf_40 : decode cX1_rowOf 40 = .ok (.areturn, 1) := by decide +kernel
theorem dX1_isRight_0 : decode cX1_isRight 0 = .ok (.aload_n 0, 1) := by decide +kernel
theorem dX1_isRight_1 : decode cX1_isRight 1 = .ok (.iload_n 1, 1) := by decide +kernel
theorem dX1_isRight_2 : decode cX1_isRight 2 = .ok (.iaload, 1) := by decide +kernel
theorem dX1_isRight_3 : decode cX1_isRight 3 = .ok (.iload_n 1, 1) := by decide +kernel
theorem dX1_isRight_4 : decode cX1_isRight 4 = .ok (.if_icmp .ne 16, 3) := by decide +kernel
theorem dX1_isRight_7 : decode cX1_isRight 7 = .ok (.aload_n 0, 1) := by decide +kernel
theorem dX1_isRight_8 : decode cX1_isRight 8 = .ok (.bipush 8, 2) := by decide +kernel
theorem dX1_isRight_10 : decode cX1_isRight 10 = .ok (.iload_n 1, 1) := by decide +kernel
theorem dX1_isRight_11 : decode cX1_isRight 11 = .ok (.iadd, 1) := by decide +kernel
theorem dX1_isRight_12 : decode cX1_isRight 12 = .ok (.iaload, 1) := by decide +kernel
theorem dX1_isRight_13 : decode cX1_isRight 13 = .ok (.ifCond .ne 7, 3) := by decide +kernel
theorem dX1_isRight_16 : decode cX1_isRight 16 = .ok (.iconst 1, 1) := by decide +kernel
theorem dX1_isRight_17 : decode cX1_isRight 17 = .ok (.goto 4, 3) := by decide +kernel
theorem dX1_isRight_20 : decode cX1_isRight 20 = .ok (.iconst 0, 1) := by decide +kernel
theorem dX1_isRight_21 : decode cX1_isRight 21 = .ok (.ireturn, 1) := by decide +kernel
theorem dX1_many_0 : decode cX1_many 0 = .ok (.iconst 0, 1) := by decide +kernel
theorem dX1_many_1 : decode cX1_many 1 = .ok (.istore_n 2, 1) := by decide +kernel
theorem dX1_many_2 : decode cX1_many 2 = .ok (.iconst 0, 1) := by decide +kernel
theorem dX1_many_3 : decode cX1_many 3 = .ok (.istore_n 3, 1) := by decide +kernel
theorem dX1_many_4 : decode cX1_many 4 = .ok (.iload_n 3, 1) := by decide +kernel
theorem dX1_many_5 : decode cX1_many 5 = .ok (.bipush 8, 2) := by decide +kernel
theorem dX1_many_7 : decode cX1_many 7 = .ok (.if_icmp .ge 43, 3) := by decide +kernel
theorem dX1_many_10 : decode cX1_many 10 = .ok (.iload_n 2, 1) := by decide +kernel
theorem dX1_many_11 : decode cX1_many 11 = .ok (.iload_n 1, 1) := by decide +kernel
theorem dX1_many_12 : decode cX1_many 12 = .ok (.iconst 3, 1) := by decide +kernel
theorem dX1_many_13 : decode cX1_many 13 = .ok (.if_icmp .eq 10, 3) := by decide +kernel
theorem dX1_many_16 : decode cX1_many 16 = .ok (.aload_n 0, 1) := by decide +kernel
theorem dX1_many_17 : decode cX1_many 17 = .ok (.iload_n 3, 1) := by decide +kernel
theorem dX1_many_18 : decode cX1_many 18 = .ok (.iaload, 1) := by decide +kernel
theorem dX1_many_19 : decode cX1_many 19 = .ok (.iload_n 3, 1) := by decide +kernel
theorem dX1_many_20 : decode cX1_many 20 = .ok (.if_icmp .ne 21, 3) := by decide +kernel
theorem dX1_many_23 : decode cX1_many 23 = .ok (.iload_n 1, 1) := by decide +kernel
theorem dX1_many_24 : decode cX1_many 24 = .ok (.iconst 2, 1) := by decide +kernel
theorem dX1_many_25 : decode cX1_many 25 = .ok (.if_icmp .eq 12, 3) := by decide +kernel
theorem dX1_many_28 : decode cX1_many 28 = .ok (.aload_n 0, 1) := by decide +kernel
theorem dX1_many_29 : decode cX1_many 29 = .ok (.bipush 8, 2) := by decide +kernel
theorem dX1_many_31 : decode cX1_many 31 = .ok (.iload_n 3, 1) := by decide +kernel
theorem dX1_many_32 : decode cX1_many 32 = .ok (.iadd, 1) := by decide +kernel
theorem dX1_many_33 : decode cX1_many 33 = .ok (.iaload, 1) := by decide +kernel
theorem dX1_many_34 : decode cX1_many 34 = .ok (.ifCond .ne 7, 3) := by decide +kernel
theorem dX1_many_37 : decode cX1_many 37 = .ok (.iconst 1, 1) := by decide +kernel
theorem dX1_many_38 : decode cX1_many 38 = .ok (.goto 4, 3) := by decide +kernel
theorem dX1_many_41 : decode cX1_many 41 = .ok (.iconst 0, 1) := by decide +kernel
theorem dX1_many_42 : decode cX1_many 42 = .ok (.iadd, 1) := by decide +kernel
theorem dX1_many_43 : decode cX1_many 43 = .ok (.istore_n 2, 1) := by decide +kernel
theorem dX1_many_44 : decode cX1_many 44 = .ok (.iinc 3 1, 3) := by decide +kernel
theorem dX1_many_47 : decode cX1_many 47 = .ok (.goto (-43), 3) := by decide +kernel
theorem dX1_many_50 : decode cX1_many 50 = .ok (.iload_n 2, 1) := by decide +kernel
theorem dX1_many_51 : decode cX1_many 51 = .ok (.ireturn, 1) := by decide +kernel
set_option maxRecDepth 20000 in
theorem ggX1_divisor_X1_divisor : GoodIn wsX1_divisor wsX1_divisor := goodIn_r _ [0, 1, 2, 3] (by decide +kernel) (by decide +kernel)
set_option maxRecDepth 20000 in
theorem gX1_divisor_X1_divisor : GoodIn wsX1_divisor (va_wsS RX1 65 yX1_divisor wsX1_divisor) := goodIn_app (goodIn_of _ (by decide +kernel)) ggX1_divisor_X1_divisor
theorem dX1_divisor_0 : decode cX1_divisor 0 = .ok (.iload_n 1, 1) := by decide +kernel
theorem dX1_divisor_1 : decode cX1_divisor 1 = .ok (.ifCond .ne 7, 3) := by decide +kernel
theorem dX1_divisor_4 : decode cX1_divisor 4 = .ok (.iload_n 0, 1) := by decide +kernel
theorem dX1_divisor_5 : decode cX1_divisor 5 = .ok (.goto 10, 3) := by decide +kernel
theorem dX1_divisor_8 : decode cX1_divisor 8 = .ok (.iload_n 1, 1) := by decide +kernel
theorem dX1_divisor_9 : decode cX1_divisor 9 = .ok (.iload_n 0, 1) := by decide +kernel
theorem dX1_divisor_10 : decode cX1_divisor 10 = .ok (.iload_n 1, 1) := by decide +kernel
theorem dX1_divisor_11 : decode cX1_divisor 11 = .ok (.irem, 1) := by decide +kernel
theorem dX1_divisor_12 : decode cX1_divisor 12 = .ok (.invokestatic 65, 3) := by decide +kernel
theorem dX1_divisor_15 : decode cX1_divisor 15 = .ok (.ireturn, 1) := by decide +kernel
set_option maxRecDepth 20000 in
theorem ggX1_byCycles_X1_divisor : GoodIn wsX1_byCycles wsX1_divisor := goodIn_r _ [8, 5, 6, 7] (by decide +kernel) (by decide +kernel)
set_option maxRecDepth 20000 in
theorem gX1_byCycles_X1_divisor : GoodIn wsX1_byCycles (va_wsS RX1 65 yX1_divisor wsX1_divisor) := goodIn_app (goodIn_of _ (by decide +kernel)) ggX1_byCycles_X1_divisor
theorem dX1_byCycles_0 : decode cX1_byCycles 0 = .ok (.iconst 1, 1) := by decide +kernel
theorem dX1_byCycles_1 : decode cX1_byCycles 1 = .ok (.istore_n 2, 1) := by decide +kernel
theorem dX1_byCycles_2 : decode cX1_byCycles 2 = .ok (.iconst 0, 1) := by decide +kernel
theorem dX1_byCycles_3 : decode cX1_byCycles 3 = .ok (.istore_n 3, 1) := by decide +kernel
theorem dX1_byCycles_4 : decode cX1_byCycles 4 = .ok (.iconst 0, 1) := by decide +kernel
theorem dX1_byCycles_5 : decode cX1_byCycles 5 = .ok (.istore 4, 2) := by decide +kernel
theorem dX1_byCycles_7 : decode cX1_byCycles 7 = .ok (.iload 4, 2) := by decide +kernel
theorem dX1_byCycles_9 : decode cX1_byCycles 9 = .ok (.bipush 8, 2) := by decide +kernel
theorem dX1_byCycles_11 : decode cX1_byCycles 11 = .ok (.if_icmp .ge 107, 3) := by decide +kernel
theorem dX1_byCycles_14 : decode cX1_byCycles 14 = .ok (.iconst 0, 1) := by decide +kernel
theorem dX1_byCycles_15 : decode cX1_byCycles 15 = .ok (.istore 5, 2) := by decide +kernel
theorem dX1_byCycles_17 : decode cX1_byCycles 17 = .ok (.iconst 0, 1) := by decide +kernel
theorem dX1_byCycles_18 : decode cX1_byCycles 18 = .ok (.istore 6, 2) := by decide +kernel
theorem dX1_byCycles_20 : decode cX1_byCycles 20 = .ok (.iload 4, 2) := by decide +kernel
theorem dX1_byCycles_22 : decode cX1_byCycles 22 = .ok (.istore 7, 2) := by decide +kernel
theorem dX1_byCycles_24 : decode cX1_byCycles 24 = .ok (.iload 4, 2) := by decide +kernel
theorem dX1_byCycles_26 : decode cX1_byCycles 26 = .ok (.istore 8, 2) := by decide +kernel
theorem dX1_byCycles_28 : decode cX1_byCycles 28 = .ok (.iload 7, 2) := by decide +kernel
theorem dX1_byCycles_30 : decode cX1_byCycles 30 = .ok (.iload 8, 2) := by decide +kernel
theorem dX1_byCycles_32 : decode cX1_byCycles 32 = .ok (.invokestatic 69, 3) := by decide +kernel
theorem dX1_byCycles_35 : decode cX1_byCycles 35 = .ok (.istore 7, 2) := by decide +kernel
theorem dX1_byCycles_37 : decode cX1_byCycles 37 = .ok (.iload 6, 2) := by decide +kernel
theorem dX1_byCycles_39 : decode cX1_byCycles 39 = .ok (.aload_n 0, 1) := by decide +kernel
theorem dX1_byCycles_40 : decode cX1_byCycles 40 = .ok (.bipush 8, 2) := by decide +kernel
theorem dX1_byCycles_42 : decode cX1_byCycles 42 = .ok (.iload 8, 2) := by decide +kernel
theorem dX1_byCycles_44 : decode cX1_byCycles 44 = .ok (.iadd, 1) := by decide +kernel
theorem dX1_byCycles_45 : decode cX1_byCycles 45 = .ok (.iaload, 1) := by decide +kernel
theorem dX1_byCycles_46 : decode cX1_byCycles 46 = .ok (.iadd, 1) := by decide +kernel
theorem dX1_byCycles_47 : decode cX1_byCycles 47 = .ok (.istore 6, 2) := by decide +kernel
theorem dX1_byCycles_49 : decode cX1_byCycles 49 = .ok (.iinc 5 1, 3) := by decide +kernel
theorem dX1_byCycles_52 : decode cX1_byCycles 52 = .ok (.aload_n 0, 1) := by decide +kernel
theorem dX1_byCycles_53 : decode cX1_byCycles 53 = .ok (.iload 8, 2) := by decide +kernel
theorem dX1_byCycles_55 : decode cX1_byCycles 55 = .ok (.iaload, 1) := by decide +kernel
theorem dX1_byCycles_56 : decode cX1_byCycles 56 = .ok (.istore 8, 2) := by decide +kernel
theorem dX1_byCycles_58 : decode cX1_byCycles 58 = .ok (.iload 8, 2) := by decide +kernel
theorem dX1_byCycles_60 : decode cX1_byCycles 60 = .ok (.iload 4, 2) := by decide +kernel
theorem dX1_byCycles_62 : decode cX1_byCycles 62 = .ok (.if_icmp .ne (-34), 3) := by decide +kernel
theorem dX1_byCycles_65 : decode cX1_byCycles 65 = .ok (.iload 7, 2) := by decide +kernel
theorem dX1_byCycles_67 : decode cX1_byCycles 67 = .ok (.iload 4, 2) := by decide +kernel
theorem dX1_byCycles_69 : decode cX1_byCycles 69 = .ok (.if_icmp .ge 6, 3) := by decide +kernel
theorem dX1_byCycles_72 : decode cX1_byCycles 72 = .ok (.goto 40, 3) := by decide +kernel
theorem dX1_byCycles_75 : decode cX1_byCycles 75 = .ok (.iload 6, 2) := by decide +kernel
theorem dX1_byCycles_77 : decode cX1_byCycles 77 = .ok (.iconst 3, 1) := by decide +kernel
theorem dX1_byCycles_78 : decode cX1_byCycles 78 = .ok (.irem, 1) := by decide +kernel
theorem dX1_byCycles_79 : decode cX1_byCycles 79 = .ok (.ifCond .ne 8, 3) := by decide +kernel
theorem dX1_byCycles_82 : decode cX1_byCycles 82 = .ok (.iload 5, 2) := by decide +kernel
theorem dX1_byCycles_84 : decode cX1_byCycles 84 = .ok (.goto 7, 3) := by decide +kernel
theorem dX1_byCycles_87 : decode cX1_byCycles 87 = .ok (.iconst 3, 1) := by decide +kernel
theorem dX1_byCycles_88 : decode cX1_byCycles 88 = .ok (.iload 5, 2) := by decide +kernel
theorem dX1_byCycles_90 : decode cX1_byCycles 90 = .ok (.imul, 1) := by decide +kernel
theorem dX1_byCycles_91 : decode cX1_byCycles 91 = .ok (.istore 9, 2) := by decide +kernel
theorem dX1_byCycles_93 : decode cX1_byCycles 93 = .ok (.iload_n 2, 1) := by decide +kernel
theorem dX1_byCycles_94 : decode cX1_byCycles 94 = .ok (.iload_n 2, 1) := by decide +kernel
theorem dX1_byCycles_95 : decode cX1_byCycles 95 = .ok (.iload 9, 2) := by decide +kernel
theorem dX1_byCycles_97 : decode cX1_byCycles 97 = .ok (.invokestatic 65, 3) := by decide +kernel
theorem dX1_byCycles_100 : decode cX1_byCycles 100 = .ok (.idiv, 1) := by decide +kernel
theorem dX1_byCycles_101 : decode cX1_byCycles 101 = .ok (.iload 9, 2) := by decide +kernel
theorem dX1_byCycles_103 : decode cX1_byCycles 103 = .ok (.imul, 1) := by decide +kernel
theorem dX1_byCycles_104 : decode cX1_byCycles 104 = .ok (.istore_n 2, 1) := by decide +kernel
theorem dX1_byCycles_105 : decode cX1_byCycles 105 = .ok (.iload_n 3, 1) := by decide +kernel
theorem dX1_byCycles_106 : decode cX1_byCycles 106 = .ok (.iload 5, 2) := by decide +kernel
theorem dX1_byCycles_108 : decode cX1_byCycles 108 = .ok (.iconst 1, 1) := by decide +kernel
theorem dX1_byCycles_109 : decode cX1_byCycles 109 = .ok (.isub, 1) := by decide +kernel
theorem dX1_byCycles_110 : decode cX1_byCycles 110 = .ok (.iadd, 1) := by decide +kernel
theorem dX1_byCycles_111 : decode cX1_byCycles 111 = .ok (.istore_n 3, 1) := by decide +kernel
theorem dX1_byCycles_112 : decode cX1_byCycles 112 = .ok (.iinc 4 1, 3) := by decide +kernel
theorem dX1_byCycles_115 : decode cX1_byCycles 115 = .ok (.goto (-108), 3) := by decide +kernel
theorem dX1_byCycles_118 : decode cX1_byCycles 118 = .ok (.iload_n 1, 1) := by decide +kernel
theorem dX1_byCycles_119 : decode cX1_byCycles 119 = .ok (.ifCond .eq 9, 3) := by decide +kernel
theorem dX1_byCycles_122 : decode cX1_byCycles 122 = .ok (.iload_n 3, 1) := by decide +kernel
theorem dX1_byCycles_123 : decode cX1_byCycles 123 = .ok (.iconst 2, 1) := by decide +kernel
theorem dX1_byCycles_124 : decode cX1_byCycles 124 = .ok (.irem, 1) := by decide +kernel
theorem dX1_byCycles_125 : decode cX1_byCycles 125 = .ok (.goto 4, 3) := by decide +kernel
theorem dX1_byCycles_128 : decode cX1_byCycles 128 = .ok (.iload_n 2, 1) := by decide +kernel
theorem dX1_byCycles_129 : decode cX1_byCycles 129 = .ok (.ireturn, 1) := by decide +kernel
set_option maxRecDepth 20000 in
theorem ggX1_comes_X1_many : GoodIn wsX1_comes wsX1_many := goodIn_r _ [6] (by decide +kernel) (by decide +kernel)
set_option maxRecDepth 20000 in
theorem gX1_comes_X1_many : GoodIn wsX1_comes (va_wsS RX1 74 yX1_many wsX1_many) := goodIn_app (goodIn_of _ (by decide +kernel)) ggX1_comes_X1_many
set_option maxRecDepth 20000 in
theorem ggX1_comes_X1_into : GoodIn wsX1_comes wsX1_into := goodIn_r _ [9] (by decide +kernel) (by decide +kernel)
set_option maxRecDepth 20000 in
theorem gX1_comes_X1_into : GoodIn wsX1_comes (va_wsS RX1 44 yX1_into wsX1_into) := goodIn_app (goodIn_of _ (by decide +kernel)) ggX1_comes_X1_into
set_option maxRecDepth 20000 in
theorem ggX1_comes_X1_comes : GoodIn wsX1_comes wsX1_comes := goodIn_r _ [0, 1, 2, 3, 4, 5, 6, 7, 8, 9, 10, 11, 12, 13, 14, 15, 16, 17, 18, 19] (by decide +kernel) (by decide +kernel)
set_option maxRecDepth 20000 in
theorem gX1_comes_X1_comes : GoodIn wsX1_comes (wsV RX1 78 RX1 yX1_comes wsX1_comes) := goodIn_app (goodIn_of _ (by decide +kernel)) ggX1_comes_X1_comes
theorem dX1_comes_0 : decode cX1_comes 0 = .ok (.iload_n 2, 1) := by decide +kernel
theorem dX1_comes_1 : decode cX1_comes 1 = .ok (.ifCond .ne 19, 3) := by decide +kernel
theorem dX1_comes_4 : decode cX1_comes 4 = .ok (.aload_n 1, 1) := by decide +kernel
theorem dX1_comes_5 : decode cX1_comes 5 = .ok (.iconst 1, 1) := by decide +kernel
theorem dX1_comes_6 : decode cX1_comes 6 = .ok (.invokestatic 74, 3) := by decide +kernel
theorem dX1_comes_9 : decode cX1_comes 9 = .ok (.bipush 8, 2) := by decide +kernel
theorem dX1_comes_11 : decode cX1_comes 11 = .ok (.if_icmp .ne 7, 3) := by decide +kernel
theorem dX1_comes_14 : decode cX1_comes 14 = .ok (.iconst 1, 1) := by decide +kernel
theorem dX1_comes_15 : decode cX1_comes 15 = .ok (.goto 4, 3) := by decide +kernel
theorem dX1_comes_18 : decode cX1_comes 18 = .ok (.iconst 0, 1) := by decide +kernel
theorem dX1_comes_19 : decode cX1_comes 19 = .ok (.ireturn, 1) := by decide +kernel
theorem dX1_comes_20 : decode cX1_comes 20 = .ok (.iconst 0, 1) := by decide +kernel
theorem dX1_comes_21 : decode cX1_comes 21 = .ok (.istore 4, 2) := by decide +kernel
theorem dX1_comes_23 : decode cX1_comes 23 = .ok (.iload 4, 2) := by decide +kernel
theorem dX1_comes_25 : decode cX1_comes 25 = .ok (.bipush 9, 2) := by decide +kernel
theorem dX1_comes_27 : decode cX1_comes 27 = .ok (.if_icmp .ge 50, 3) := by decide +kernel
theorem dX1_comes_30 : decode cX1_comes 30 = .ok (.iload 4, 2) := by decide +kernel
theorem dX1_comes_32 : decode cX1_comes 32 = .ok (.iconst 3, 1) := by decide +kernel
theorem dX1_comes_33 : decode cX1_comes 33 = .ok (.idiv, 1) := by decide +kernel
theorem dX1_comes_34 : decode cX1_comes 34 = .ok (.iload_n 3, 1) := by decide +kernel
theorem dX1_comes_35 : decode cX1_comes 35 = .ok (.if_icmp .eq 36, 3) := by decide +kernel
theorem dX1_comes_38 : decode cX1_comes 38 = .ok (.aload_n 0, 1) := by decide +kernel
theorem dX1_comes_39 : decode cX1_comes 39 = .ok (.aload_n 1, 1) := by decide +kernel
theorem dX1_comes_40 : decode cX1_comes 40 = .ok (.aload_n 0, 1) := by decide +kernel
theorem dX1_comes_41 : decode cX1_comes 41 = .ok (.getfield 18, 3) := by decide +kernel
theorem dX1_comes_44 : decode cX1_comes 44 = .ok (.iload 4, 2) := by decide +kernel
theorem dX1_comes_46 : decode cX1_comes 46 = .ok (.aaload, 1) := by decide +kernel
theorem dX1_comes_47 : decode cX1_comes 47 = .ok (.aload_n 0, 1) := by decide +kernel
theorem dX1_comes_48 : decode cX1_comes 48 = .ok (.getfield 23, 3) := by decide +kernel
theorem dX1_comes_51 : decode cX1_comes 51 = .ok (.iload_n 2, 1) := by decide +kernel
theorem dX1_comes_52 : decode cX1_comes 52 = .ok (.aaload, 1) := by decide +kernel
theorem dX1_comes_53 : decode cX1_comes 53 = .ok (.invokestatic 44, 3) := by decide +kernel
theorem dX1_comes_56 : decode cX1_comes 56 = .ok (.iload_n 2, 1) := by decide +kernel
theorem dX1_comes_57 : decode cX1_comes 57 = .ok (.iconst 1, 1) := by decide +kernel
theorem dX1_comes_58 : decode cX1_comes 58 = .ok (.isub, 1) := by decide +kernel
theorem dX1_comes_59 : decode cX1_comes 59 = .ok (.iload 4, 2) := by decide +kernel
theorem dX1_comes_61 : decode cX1_comes 61 = .ok (.iconst 3, 1) := by decide +kernel
theorem dX1_comes_62 : decode cX1_comes 62 = .ok (.idiv, 1) := by decide +kernel
theorem dX1_comes_63 : decode cX1_comes 63 = .ok (.invokevirtual 78, 3) := by decide +kernel
theorem dX1_comes_66 : decode cX1_comes 66 = .ok (.ifCond .eq 5, 3) := by decide +kernel
theorem dX1_comes_69 : decode cX1_comes 69 = .ok (.iconst 1, 1) := by decide +kernel
theorem dX1_comes_70 : decode cX1_comes 70 = .ok (.ireturn, 1) := by decide +kernel
theorem dX1_comes_71 : decode cX1_comes 71 = .ok (.iinc 4 1, 3) := by decide +kernel
theorem dX1_comes_74 : decode cX1_comes 74 = .ok (.goto (-51), 3) := by decide +kernel
theorem dX1_comes_77 : decode cX1_comes 77 = .ok (.iconst 0, 1) := by decide +kernel
theorem dX1_comes_78 : decode cX1_comes 78 = .ok (.ireturn, 1) := by decide +kernel
set_option maxRecDepth 20000 in
theorem ggX1_farOf_X1_comes : GoodIn wsX1_farOf wsX1_comes := goodIn_r _ [5, 6, 7, 8, 9, 4, 10, 11, 12, 13, 1, 2, 3, 14, 15, 16, 17, 18, 19, 20] (by decide +kernel) (by decide +kernel)
set_option maxRecDepth 20000 in
theorem gX1_farOf_X1_comes : GoodIn wsX1_farOf (wsV RX1 78 RX1 yX1_comes wsX1_comes) := goodIn_app (goodIn_of _ (by decide +kernel)) ggX1_farOf_X1_comes
theorem dX1_farOf_0 : decode cX1_farOf 0 = .ok (.iconst 0, 1) := by decide +kernel
theorem dX1_farOf_1 : decode cX1_farOf 1 = .ok (.istore_n 3, 1) := by decide +kernel
theorem dX1_farOf_2 : decode cX1_farOf 2 = .ok (.iload_n 3, 1) := by decide +kernel
theorem dX1_farOf_3 : decode cX1_farOf 3 = .ok (.iload_n 2, 1) := by decide +kernel
theorem dX1_farOf_4 : decode cX1_farOf 4 = .ok (.if_icmp .gt 21, 3) := by decide +kernel
theorem dX1_farOf_7 : decode cX1_farOf 7 = .ok (.aload_n 0, 1) := by decide +kernel
theorem dX1_farOf_8 : decode cX1_farOf 8 = .ok (.aload_n 1, 1) := by decide +kernel
theorem dX1_farOf_9 : decode cX1_farOf 9 = .ok (.iload_n 3, 1) := by decide +kernel
theorem dX1_farOf_10 : decode cX1_farOf 10 = .ok (.iconst (-1), 1) := by decide +kernel
theorem dX1_farOf_11 : decode cX1_farOf 11 = .ok (.invokevirtual 78, 3) := by decide +kernel
theorem dX1_farOf_14 : decode cX1_farOf 14 = .ok (.ifCond .eq 5, 3) := by decide +kernel
theorem dX1_farOf_17 : decode cX1_farOf 17 = .ok (.iload_n 3, 1) := by decide +kernel
theorem dX1_farOf_18 : decode cX1_farOf 18 = .ok (.ireturn, 1) := by decide +kernel
theorem dX1_farOf_19 : decode cX1_farOf 19 = .ok (.iinc 3 1, 3) := by decide +kernel
theorem dX1_farOf_22 : decode cX1_farOf 22 = .ok (.goto (-20), 3) := by decide +kernel
theorem dX1_farOf_25 : decode cX1_farOf 25 = .ok (.iconst (-1), 1) := by decide +kernel
theorem dX1_farOf_26 : decode cX1_farOf 26 = .ok (.ireturn, 1) := by decide +kernel
set_option maxRecDepth 20000 in
theorem ggX1_turn_X1_isIn : GoodIn wsX1_turn wsX1_isIn := goodIn_r _ [7] (by decide +kernel) (by decide +kernel)
set_option maxRecDepth 20000 in
theorem gX1_turn_X1_isIn : GoodIn wsX1_turn (va_wsS RX1 40 yX1_isIn wsX1_isIn) := goodIn_app (goodIn_of _ (by decide +kernel)) ggX1_turn_X1_isIn
set_option maxRecDepth 20000 in
theorem ggX1_turn_X1_no : GoodIn wsX1_turn wsX1_no := goodIn_r _ [11, 1, 27, 28, 29, 30, 31, 32, 33] (by decide +kernel) (by decide +kernel)
set_option maxRecDepth 20000 in
theorem gX1_turn_X1_no : GoodIn wsX1_turn (wsV RX1 82 RX1 yX1_no wsX1_no) := goodIn_app (goodIn_of _ (by decide +kernel)) ggX1_turn_X1_no
set_option maxRecDepth 20000 in
theorem ggX1_turn_X1_turned : GoodIn wsX1_turn wsX1_turned := goodIn_r _ [15, 16, 17, 18, 6, 19, 20, 21, 22, 23, 27, 28, 29, 30, 31, 32, 33] (by decide +kernel) (by decide +kernel)
set_option maxRecDepth 20000 in
theorem gX1_turn_X1_turned : GoodIn wsX1_turn (wsV RX1 61 RX1 yX1_turned wsX1_turned) := goodIn_app (goodIn_of _ (by decide +kernel)) ggX1_turn_X1_turned
set_option maxRecDepth 20000 in
theorem ggX1_turn_X1_many : GoodIn wsX1_turn wsX1_many := goodIn_r _ [26] (by decide +kernel) (by decide +kernel)
set_option maxRecDepth 20000 in
theorem gX1_turn_X1_many : GoodIn wsX1_turn (va_wsS RX1 74 yX1_many wsX1_many) := goodIn_app (goodIn_of _ (by decide +kernel)) ggX1_turn_X1_many
theorem dX1_turn_0 : decode cX1_turn 0 = .ok (.aload_n 0, 1) := by decide +kernel
theorem dX1_turn_1 : decode cX1_turn 1 = .ok (.iconst 0, 1) := by decide +kernel
theorem dX1_turn_2 : decode cX1_turn 2 = .ok (.putfield 36, 3) := by decide +kernel
theorem dX1_turn_5 : decode cX1_turn 5 = .ok (.iload_n 1, 1) := by decide +kernel
theorem dX1_turn_6 : decode cX1_turn 6 = .ok (.iconst 0, 1) := by decide +kernel
theorem dX1_turn_7 : decode cX1_turn 7 = .ok (.iconst 2, 1) := by decide +kernel
theorem dX1_turn_8 : decode cX1_turn 8 = .ok (.invokestatic 40, 3) := by decide +kernel
theorem dX1_turn_11 : decode cX1_turn 11 = .ok (.ifCond .ne 9, 3) := by decide +kernel
theorem dX1_turn_14 : decode cX1_turn 14 = .ok (.aload_n 0, 1) := by decide +kernel
theorem dX1_turn_15 : decode cX1_turn 15 = .ok (.iconst 1, 1) := by decide +kernel
theorem dX1_turn_16 : decode cX1_turn 16 = .ok (.invokevirtual 82, 3) := by decide +kernel
theorem dX1_turn_19 : decode cX1_turn 19 = .ok (.ireturn, 1) := by decide +kernel
theorem dX1_turn_20 : decode cX1_turn 20 = .ok (.iload_n 2, 1) := by decide +kernel
theorem dX1_turn_21 : decode cX1_turn 21 = .ok (.iconst 1, 1) := by decide +kernel
theorem dX1_turn_22 : decode cX1_turn 22 = .ok (.iconst 3, 1) := by decide +kernel
theorem dX1_turn_23 : decode cX1_turn 23 = .ok (.invokestatic 40, 3) := by decide +kernel
theorem dX1_turn_26 : decode cX1_turn 26 = .ok (.ifCond .ne 9, 3) := by decide +kernel
theorem dX1_turn_29 : decode cX1_turn 29 = .ok (.aload_n 0, 1) := by decide +kernel
theorem dX1_turn_30 : decode cX1_turn 30 = .ok (.iconst 2, 1) := by decide +kernel
theorem dX1_turn_31 : decode cX1_turn 31 = .ok (.invokevirtual 82, 3) := by decide +kernel
theorem dX1_turn_34 : decode cX1_turn 34 = .ok (.ireturn, 1) := by decide +kernel
theorem dX1_turn_35 : decode cX1_turn 35 = .ok (.aload_n 0, 1) := by decide +kernel
theorem dX1_turn_36 : decode cX1_turn 36 = .ok (.aload_n 0, 1) := by decide +kernel
theorem dX1_turn_37 : decode cX1_turn 37 = .ok (.aload_n 0, 1) := by decide +kernel
theorem dX1_turn_38 : decode cX1_turn 38 = .ok (.getfield 13, 3) := by decide +kernel
theorem dX1_turn_41 : decode cX1_turn 41 = .ok (.iconst 3, 1) := by decide +kernel
theorem dX1_turn_42 : decode cX1_turn 42 = .ok (.iload_n 1, 1) := by decide +kernel
theorem dX1_turn_43 : decode cX1_turn 43 = .ok (.imul, 1) := by decide +kernel
theorem dX1_turn_44 : decode cX1_turn 44 = .ok (.iload_n 2, 1) := by decide +kernel
theorem dX1_turn_45 : decode cX1_turn 45 = .ok (.iadd, 1) := by decide +kernel
theorem dX1_turn_46 : decode cX1_turn 46 = .ok (.iconst 1, 1) := by decide +kernel
theorem dX1_turn_47 : decode cX1_turn 47 = .ok (.isub, 1) := by decide +kernel
theorem dX1_turn_48 : decode cX1_turn 48 = .ok (.invokevirtual 61, 3) := by decide +kernel
theorem dX1_turn_51 : decode cX1_turn 51 = .ok (.putfield 13, 3) := by decide +kernel
theorem dX1_turn_54 : decode cX1_turn 54 = .ok (.aload_n 0, 1) := by decide +kernel
theorem dX1_turn_55 : decode cX1_turn 55 = .ok (.dup, 1) := by decide +kernel
theorem dX1_turn_56 : decode cX1_turn 56 = .ok (.getfield 86, 3) := by decide +kernel
theorem dX1_turn_59 : decode cX1_turn 59 = .ok (.iconst 1, 1) := by decide +kernel
theorem dX1_turn_60 : decode cX1_turn 60 = .ok (.iadd, 1) := by decide +kernel
theorem dX1_turn_61 : decode cX1_turn 61 = .ok (.putfield 86, 3) := by decide +kernel
theorem dX1_turn_64 : decode cX1_turn 64 = .ok (.aload_n 0, 1) := by decide +kernel
theorem dX1_turn_65 : decode cX1_turn 65 = .ok (.getfield 13, 3) := by decide +kernel
theorem dX1_turn_68 : decode cX1_turn 68 = .ok (.iconst 1, 1) := by decide +kernel
theorem dX1_turn_69 : decode cX1_turn 69 = .ok (.invokestatic 74, 3) := by decide +kernel
theorem dX1_turn_72 : decode cX1_turn 72 = .ok (.ireturn, 1) := by decide +kernel
set_option maxRecDepth 20000 in
theorem ggX1_play_X1_isWord : GoodIn wsX1_play wsX1_isWord := goodIn_r _ [8, 9, 10, 7, 11] (by decide +kernel) (by decide +kernel)
set_option maxRecDepth 20000 in
theorem gX1_play_X1_isWord : GoodIn wsX1_play (va_wsS RX1 89 yX1_isWord wsX1_isWord) := goodIn_app (goodIn_of _ (by decide +kernel)) ggX1_play_X1_isWord
set_option maxRecDepth 20000 in
theorem ggX1_play_X1_no : GoodIn wsX1_play wsX1_no := goodIn_r _ [15, 1, 39, 40, 41, 42, 43, 44, 45] (by decide +kernel) (by decide +kernel)
set_option maxRecDepth 20000 in
theorem gX1_play_X1_no : GoodIn wsX1_play (wsV RX1 82 RX1 yX1_no wsX1_no) := goodIn_app (goodIn_of _ (by decide +kernel)) ggX1_play_X1_no
set_option maxRecDepth 20000 in
theorem ggX1_play_X1_isIn : GoodIn wsX1_play wsX1_isIn := goodIn_r _ [11] (by decide +kernel) (by decide +kernel)
set_option maxRecDepth 20000 in
theorem gX1_play_X1_isIn : GoodIn wsX1_play (va_wsS RX1 40 yX1_isIn wsX1_isIn) := goodIn_app (goodIn_of _ (by decide +kernel)) ggX1_play_X1_isIn
set_option maxRecDepth 20000 in
theorem ggX1_play_X1_rowOf : GoodIn wsX1_play wsX1_rowOf := goodIn_r _ [19, 2, 20, 21, 22, 7, 23, 24, 25, 26, 27, 28, 29, 30, 31, 32, 33, 34, 35, 39, 40, 41, 42, 43, 44, 45] (by decide +kernel) (by decide +kernel)
set_option maxRecDepth 20000 in
theorem gX1_play_X1_rowOf : GoodIn wsX1_play (wsV RX1 93 RX1 yX1_rowOf wsX1_rowOf) := goodIn_app (goodIn_of _ (by decide +kernel)) ggX1_play_X1_rowOf
set_option maxRecDepth 20000 in
theorem ggX1_play_X1_then : GoodIn wsX1_play wsX1_then := goodIn_r _ [32, 24, 33, 34, 7, 35] (by decide +kernel) (by decide +kernel)
set_option maxRecDepth 20000 in
theorem gX1_play_X1_then : GoodIn wsX1_play (va_wsS RX1 57 yX1_then wsX1_then) := goodIn_app (goodIn_of _ (by decide +kernel)) ggX1_play_X1_then
set_option maxRecDepth 20000 in
theorem ggX1_play_X1_many : GoodIn wsX1_play wsX1_many := goodIn_r _ [38] (by decide +kernel) (by decide +kernel)
set_option maxRecDepth 20000 in
theorem gX1_play_X1_many : GoodIn wsX1_play (va_wsS RX1 74 yX1_many wsX1_many) := goodIn_app (goodIn_of _ (by decide +kernel)) ggX1_play_X1_many
theorem dX1_play_0 : decode cX1_play 0 = .ok (.aload_n 0, 1) := by decide +kernel
theorem dX1_play_1 : decode cX1_play 1 = .ok (.iconst 0, 1) := by decide +kernel
theorem dX1_play_2 : decode cX1_play 2 = .ok (.putfield 36, 3) := by decide +kernel
theorem dX1_play_5 : decode cX1_play 5 = .ok (.iload_n 1, 1) := by decide +kernel
theorem dX1_play_6 : decode cX1_play 6 = .ok (.invokestatic 89, 3) := by decide +kernel
theorem dX1_play_9 : decode cX1_play 9 = .ok (.ifCond .ne 9, 3) := by decide +kernel
theorem dX1_play_12 : decode cX1_play 12 = .ok (.aload_n 0, 1) := by decide +kernel
theorem dX1_play_13 : decode cX1_play 13 = .ok (.iconst 1, 1) := by decide +kernel
theorem dX1_play_14 : decode cX1_play 14 = .ok (.invokevirtual 82, 3) := by decide +kernel
theorem dX1_play_17 : decode cX1_play 17 = .ok (.ireturn, 1) := by decide +kernel
theorem dX1_play_18 : decode cX1_play 18 = .ok (.iload_n 2, 1) := by decide +kernel
theorem dX1_play_19 : decode cX1_play 19 = .ok (.iconst 1, 1) := by decide +kernel
theorem dX1_play_20 : decode cX1_play 20 = .ok (.bipush 50, 2) := by decide +kernel
theorem dX1_play_22 : decode cX1_play 22 = .ok (.invokestatic 40, 3) := by decide +kernel
theorem dX1_play_25 : decode cX1_play 25 = .ok (.ifCond .ne 9, 3) := by decide +kernel
theorem dX1_play_28 : decode cX1_play 28 = .ok (.aload_n 0, 1) := by decide +kernel
theorem dX1_play_29 : decode cX1_play 29 = .ok (.iconst 2, 1) := by decide +kernel
theorem dX1_play_30 : decode cX1_play 30 = .ok (.invokevirtual 82, 3) := by decide +kernel
theorem dX1_play_33 : decode cX1_play 33 = .ok (.ireturn, 1) := by decide +kernel
theorem dX1_play_34 : decode cX1_play 34 = .ok (.aload_n 0, 1) := by decide +kernel
theorem dX1_play_35 : decode cX1_play 35 = .ok (.getfield 26, 3) := by decide +kernel
theorem dX1_play_38 : decode cX1_play 38 = .ok (.iload_n 1, 1) := by decide +kernel
theorem dX1_play_39 : decode cX1_play 39 = .ok (.iaload, 1) := by decide +kernel
theorem dX1_play_40 : decode cX1_play 40 = .ok (.ifCond .ne 9, 3) := by decide +kernel
theorem dX1_play_43 : decode cX1_play 43 = .ok (.aload_n 0, 1) := by decide +kernel
theorem dX1_play_44 : decode cX1_play 44 = .ok (.iconst 3, 1) := by decide +kernel
theorem dX1_play_45 : decode cX1_play 45 = .ok (.invokevirtual 82, 3) := by decide +kernel
theorem dX1_play_48 : decode cX1_play 48 = .ok (.ireturn, 1) := by decide +kernel
theorem dX1_play_49 : decode cX1_play 49 = .ok (.iconst 0, 1) := by decide +kernel
theorem dX1_play_50 : decode cX1_play 50 = .ok (.istore_n 3, 1) := by decide +kernel
theorem dX1_play_51 : decode cX1_play 51 = .ok (.iload_n 3, 1) := by decide +kernel
theorem dX1_play_52 : decode cX1_play 52 = .ok (.iload_n 2, 1) := by decide +kernel
theorem dX1_play_53 : decode cX1_play 53 = .ok (.if_icmp .ge 25, 3) := by decide +kernel
theorem dX1_play_56 : decode cX1_play 56 = .ok (.aload_n 0, 1) := by decide +kernel
theorem dX1_play_57 : decode cX1_play 57 = .ok (.aload_n 0, 1) := by decide +kernel
theorem dX1_play_58 : decode cX1_play 58 = .ok (.getfield 13, 3) := by decide +kernel
theorem dX1_play_61 : decode cX1_play 61 = .ok (.aload_n 0, 1) := by decide +kernel
theorem dX1_play_62 : decode cX1_play 62 = .ok (.iload_n 1, 1) := by decide +kernel
theorem dX1_play_63 : decode cX1_play 63 = .ok (.invokevirtual 93, 3) := by decide +kernel
theorem dX1_play_66 : decode cX1_play 66 = .ok (.invokestatic 57, 3) := by decide +kernel
theorem dX1_play_69 : decode cX1_play 69 = .ok (.putfield 13, 3) := by decide +kernel
theorem dX1_play_72 : decode cX1_play 72 = .ok (.iinc 3 1, 3) := by decide +kernel
theorem dX1_play_75 : decode cX1_play 75 = .ok (.goto (-24), 3) := by decide +kernel
theorem dX1_play_78 : decode cX1_play 78 = .ok (.aload_n 0, 1) := by decide +kernel
theorem dX1_play_79 : decode cX1_play 79 = .ok (.dup, 1) := by decide +kernel
theorem dX1_play_80 : decode cX1_play 80 = .ok (.getfield 86, 3) := by decide +kernel
theorem dX1_play_83 : decode cX1_play 83 = .ok (.iload_n 2, 1) := by decide +kernel
theorem dX1_play_84 : decode cX1_play 84 = .ok (.aload_n 0, 1) := by decide +kernel
theorem dX1_play_85 : decode cX1_play 85 = .ok (.getfield 26, 3) := by decide +kernel
theorem dX1_play_88 : decode cX1_play 88 = .ok (.iload_n 1, 1) := by decide +kernel
theorem dX1_play_89 : decode cX1_play 89 = .ok (.iaload, 1) := by decide +kernel
theorem dX1_play_90 : decode cX1_play 90 = .ok (.imul, 1) := by decide +kernel
theorem dX1_play_91 : decode cX1_play 91 = .ok (.iadd, 1) := by decide +kernel
theorem dX1_play_92 : decode cX1_play 92 = .ok (.putfield 86, 3) := by decide +kernel
theorem dX1_play_95 : decode cX1_play 95 = .ok (.aload_n 0, 1) := by decide +kernel
theorem dX1_play_96 : decode cX1_play 96 = .ok (.getfield 13, 3) := by decide +kernel
theorem dX1_play_99 : decode cX1_play 99 = .ok (.iconst 1, 1) := by decide +kernel
theorem dX1_play_100 : decode cX1_play 100 = .ok (.invokestatic 74, 3) := by decide +kernel
theorem dX1_play_103 : decode cX1_play 103 = .ok (.ireturn, 1) := by decide +kernel
set_option maxRecDepth 20000 in
theorem ggX1_reset_X1_many : GoodIn wsX1_reset wsX1_many := goodIn_r _ [6] (by decide +kernel) (by decide +kernel)
set_option maxRecDepth 20000 in
theorem gX1_reset_X1_many : GoodIn wsX1_reset (va_wsS RX1 74 yX1_many wsX1_many) := goodIn_app (goodIn_of _ (by decide +kernel)) ggX1_reset_X1_many
set_option maxRecDepth 20000 in
theorem ggX1_reset_X1_right : GoodIn wsX1_reset wsX1_right := goodIn_r _ [9, 10] (by decide +kernel) (by decide +kernel)
set_option maxRecDepth 20000 in
theorem gX1_reset_X1_right : GoodIn wsX1_reset (va_wsS RX1 7 yX1_right wsX1_right) := goodIn_app (goodIn_of _ (by decide +kernel)) ggX1_reset_X1_right
theorem dX1_reset_0 : decode cX1_reset 0 = .ok (.aload_n 0, 1) := by decide +kernel
theorem dX1_reset_1 : decode cX1_reset 1 = .ok (.iconst 0, 1) := by decide +kernel
theorem dX1_reset_2 : decode cX1_reset 2 = .ok (.putfield 36, 3) := by decide +kernel
theorem dX1_reset_5 : decode cX1_reset 5 = .ok (.bipush 8, 2) := by decide +kernel
theorem dX1_reset_7 : decode cX1_reset 7 = .ok (.aload_n 0, 1) := by decide +kernel
theorem dX1_reset_8 : decode cX1_reset 8 = .ok (.getfield 13, 3) := by decide +kernel
theorem dX1_reset_11 : decode cX1_reset 11 = .ok (.iconst 1, 1) := by decide +kernel
theorem dX1_reset_12 : decode cX1_reset 12 = .ok (.invokestatic 74, 3) := by decide +kernel
theorem dX1_reset_15 : decode cX1_reset 15 = .ok (.isub, 1) := by decide +kernel
theorem dX1_reset_16 : decode cX1_reset 16 = .ok (.istore_n 1, 1) := by decide +kernel
theorem dX1_reset_17 : decode cX1_reset 17 = .ok (.aload_n 0, 1) := by decide +kernel
theorem dX1_reset_18 : decode cX1_reset 18 = .ok (.invokestatic 7, 3) := by decide +kernel
theorem dX1_reset_21 : decode cX1_reset 21 = .ok (.putfield 13, 3) := by decide +kernel
theorem dX1_reset_24 : decode cX1_reset 24 = .ok (.iload_n 1, 1) := by decide +kernel
theorem dX1_reset_25 : decode cX1_reset 25 = .ok (.ireturn, 1) := by decide +kernel
theorem dX1_put_0 : decode cX1_put 0 = .ok (.aload_n 0, 1) := by decide +kernel
theorem dX1_put_1 : decode cX1_put 1 = .ok (.getfield 29, 3) := by decide +kernel
theorem dX1_put_4 : decode cX1_put 4 = .ok (.bipush 12, 2) := by decide +kernel
theorem dX1_put_6 : decode cX1_put 6 = .ok (.iload_n 1, 1) := by decide +kernel
theorem dX1_put_7 : decode cX1_put 7 = .ok (.imul, 1) := by decide +kernel
theorem dX1_put_8 : decode cX1_put 8 = .ok (.aload_n 0, 1) := by decide +kernel
theorem dX1_put_9 : decode cX1_put 9 = .ok (.getfield 26, 3) := by decide +kernel
theorem dX1_put_12 : decode cX1_put 12 = .ok (.iload_n 1, 1) := by decide +kernel
theorem dX1_put_13 : decode cX1_put 13 = .ok (.iaload, 1) := by decide +kernel
theorem dX1_put_14 : decode cX1_put 14 = .ok (.iadd, 1) := by decide +kernel
theorem dX1_put_15 : decode cX1_put 15 = .ok (.iload_n 2, 1) := by decide +kernel
theorem dX1_put_16 : decode cX1_put 16 = .ok (.iastore, 1) := by decide +kernel
theorem dX1_put_17 : decode cX1_put 17 = .ok (.aload_n 0, 1) := by decide +kernel
theorem dX1_put_18 : decode cX1_put 18 = .ok (.getfield 26, 3) := by decide +kernel
theorem dX1_put_21 : decode cX1_put 21 = .ok (.iload_n 1, 1) := by decide +kernel
theorem dX1_put_22 : decode cX1_put 22 = .ok (.dup2, 1) := by decide +kernel
theorem dX1_put_23 : decode cX1_put 23 = .ok (.iaload, 1) := by decide +kernel
theorem dX1_put_24 : decode cX1_put 24 = .ok (.iconst 1, 1) := by decide +kernel
theorem dX1_put_25 : decode cX1_put 25 = .ok (.iadd, 1) := by decide +kernel
theorem dX1_put_26 : decode cX1_put 26 = .ok (.iastore, 1) := by decide +kernel
theorem dX1_put_27 : decode cX1_put 27 = .ok (.return_, 1) := by decide +kernel
set_option maxRecDepth 20000 in
theorem ggX1_say_X1_isWord : GoodIn wsX1_say wsX1_isWord := goodIn_r _ [6, 7, 8, 5, 9] (by decide +kernel) (by decide +kernel)
set_option maxRecDepth 20000 in
theorem gX1_say_X1_isWord : GoodIn wsX1_say (va_wsS RX1 89 yX1_isWord wsX1_isWord) := goodIn_app (goodIn_of _ (by decide +kernel)) ggX1_say_X1_isWord
set_option maxRecDepth 20000 in
theorem ggX1_say_X1_isIn : GoodIn wsX1_say wsX1_isIn := goodIn_r _ [9] (by decide +kernel) (by decide +kernel)
set_option maxRecDepth 20000 in
theorem gX1_say_X1_isIn : GoodIn wsX1_say (va_wsS RX1 40 yX1_isIn wsX1_isIn) := goodIn_app (goodIn_of _ (by decide +kernel)) ggX1_say_X1_isIn
set_option maxRecDepth 20000 in
theorem ggX1_say_X1_no : GoodIn wsX1_say wsX1_no := goodIn_r _ [13, 1, 19, 20, 21, 22, 23, 24, 25] (by decide +kernel) (by decide +kernel)
set_option maxRecDepth 20000 in
theorem gX1_say_X1_no : GoodIn wsX1_say (wsV RX1 82 RX1 yX1_no wsX1_no) := goodIn_app (goodIn_of _ (by decide +kernel)) ggX1_say_X1_no
set_option maxRecDepth 20000 in
theorem ggX1_say_X1_put : GoodIn wsX1_say wsX1_put := goodIn_r _ [17, 18, 2, 19, 20, 21, 22, 23, 24, 25] (by decide +kernel) (by decide +kernel)
set_option maxRecDepth 20000 in
theorem gX1_say_X1_put : GoodIn wsX1_say (wsV RX1 96 RX1 yX1_put wsX1_put) := goodIn_app (goodIn_of _ (by decide +kernel)) ggX1_say_X1_put
theorem dX1_say_0 : decode cX1_say 0 = .ok (.aload_n 0, 1) := by decide +kernel
theorem dX1_say_1 : decode cX1_say 1 = .ok (.iconst 0, 1) := by decide +kernel
theorem dX1_say_2 : decode cX1_say 2 = .ok (.putfield 36, 3) := by decide +kernel
theorem dX1_say_5 : decode cX1_say 5 = .ok (.iload_n 1, 1) := by decide +kernel
theorem dX1_say_6 : decode cX1_say 6 = .ok (.invokestatic 89, 3) := by decide +kernel
theorem dX1_say_9 : decode cX1_say 9 = .ok (.ifCond .eq 12, 3) := by decide +kernel
theorem dX1_say_12 : decode cX1_say 12 = .ok (.iload_n 2, 1) := by decide +kernel
theorem dX1_say_13 : decode cX1_say 13 = .ok (.iconst 0, 1) := by decide +kernel
theorem dX1_say_14 : decode cX1_say 14 = .ok (.iconst 2, 1) := by decide +kernel
theorem dX1_say_15 : decode cX1_say 15 = .ok (.invokestatic 40, 3) := by decide +kernel
theorem dX1_say_18 : decode cX1_say 18 = .ok (.ifCond .ne 9, 3) := by decide +kernel
theorem dX1_say_21 : decode cX1_say 21 = .ok (.aload_n 0, 1) := by decide +kernel
theorem dX1_say_22 : decode cX1_say 22 = .ok (.iconst 1, 1) := by decide +kernel
theorem dX1_say_23 : decode cX1_say 23 = .ok (.invokevirtual 82, 3) := by decide +kernel
theorem dX1_say_26 : decode cX1_say 26 = .ok (.ireturn, 1) := by decide +kernel
theorem dX1_say_27 : decode cX1_say 27 = .ok (.iload_n 3, 1) := by decide +kernel
theorem dX1_say_28 : decode cX1_say 28 = .ok (.iconst 1, 1) := by decide +kernel
theorem dX1_say_29 : decode cX1_say 29 = .ok (.iconst 3, 1) := by decide +kernel
theorem dX1_say_30 : decode cX1_say 30 = .ok (.invokestatic 40, 3) := by decide +kernel
theorem dX1_say_33 : decode cX1_say 33 = .ok (.ifCond .ne 9, 3) := by decide +kernel
theorem dX1_say_36 : decode cX1_say 36 = .ok (.aload_n 0, 1) := by decide +kernel
theorem dX1_say_37 : decode cX1_say 37 = .ok (.iconst 2, 1) := by decide +kernel
theorem dX1_say_38 : decode cX1_say 38 = .ok (.invokevirtual 82, 3) := by decide +kernel
theorem dX1_say_41 : decode cX1_say 41 = .ok (.ireturn, 1) := by decide +kernel
theorem dX1_say_42 : decode cX1_say 42 = .ok (.aload_n 0, 1) := by decide +kernel
theorem dX1_say_43 : decode cX1_say 43 = .ok (.getfield 26, 3) := by decide +kernel
theorem dX1_say_46 : decode cX1_say 46 = .ok (.iload_n 1, 1) := by decide +kernel
theorem dX1_say_47 : decode cX1_say 47 = .ok (.iaload, 1) := by decide +kernel
theorem dX1_say_48 : decode cX1_say 48 = .ok (.bipush 12, 2) := by decide +kernel
theorem dX1_say_50 : decode cX1_say 50 = .ok (.if_icmp .ne 9, 3) := by decide +kernel
theorem dX1_say_53 : decode cX1_say 53 = .ok (.aload_n 0, 1) := by decide +kernel
theorem dX1_say_54 : decode cX1_say 54 = .ok (.iconst 3, 1) := by decide +kernel
theorem dX1_say_55 : decode cX1_say 55 = .ok (.invokevirtual 82, 3) := by decide +kernel
theorem dX1_say_58 : decode cX1_say 58 = .ok (.ireturn, 1) := by decide +kernel
theorem dX1_say_59 : decode cX1_say 59 = .ok (.aload_n 0, 1) := by decide +kernel
theorem dX1_say_60 : decode cX1_say 60 = .ok (.iload_n 1, 1) := by decide +kernel
theorem dX1_say_61 : decode cX1_say 61 = .ok (.iconst 3, 1) := by decide +kernel
theorem dX1_say_62 : decode cX1_say 62 = .ok (.iload_n 2, 1) := by decide +kernel
theorem dX1_say_63 : decode cX1_say 63 = .ok (.imul, 1) := by decide +kernel
theorem dX1_say_64 : decode cX1_say 64 = .ok (.iload_n 3, 1) := by decide +kernel
theorem dX1_say_65 : decode cX1_say 65 = .ok (.iadd, 1) := by decide +kernel
theorem dX1_say_66 : decode cX1_say 66 = .ok (.iconst 1, 1) := by decide +kernel
theorem dX1_say_67 : decode cX1_say 67 = .ok (.isub, 1) := by decide +kernel
theorem dX1_say_68 : decode cX1_say 68 = .ok (.invokevirtual 96, 3) := by decide +kernel
theorem dX1_say_71 : decode cX1_say 71 = .ok (.aload_n 0, 1) := by decide +kernel
theorem dX1_say_72 : decode cX1_say 72 = .ok (.getfield 26, 3) := by decide +kernel
theorem dX1_say_75 : decode cX1_say 75 = .ok (.iload_n 1, 1) := by decide +kernel
theorem dX1_say_76 : decode cX1_say 76 = .ok (.iaload, 1) := by decide +kernel
theorem dX1_say_77 : decode cX1_say 77 = .ok (.ireturn, 1) := by decide +kernel
set_option maxRecDepth 20000 in
theorem ggX1_wipe_X1_isWord : GoodIn wsX1_wipe wsX1_isWord := goodIn_r _ [6, 7, 8, 5, 9] (by decide +kernel) (by decide +kernel)
set_option maxRecDepth 20000 in
theorem gX1_wipe_X1_isWord : GoodIn wsX1_wipe (va_wsS RX1 89 yX1_isWord wsX1_isWord) := goodIn_app (goodIn_of _ (by decide +kernel)) ggX1_wipe_X1_isWord
set_option maxRecDepth 20000 in
theorem ggX1_wipe_X1_no : GoodIn wsX1_wipe wsX1_no := goodIn_r _ [13, 1, 14, 15, 16, 17, 18, 19, 20] (by decide +kernel) (by decide +kernel)
set_option maxRecDepth 20000 in
theorem gX1_wipe_X1_no : GoodIn wsX1_wipe (wsV RX1 82 RX1 yX1_no wsX1_no) := goodIn_app (goodIn_of _ (by decide +kernel)) ggX1_wipe_X1_no
theorem dX1_wipe_0 : decode cX1_wipe 0 = .ok (.aload_n 0, 1) := by decide +kernel
theorem dX1_wipe_1 : decode cX1_wipe 1 = .ok (.iconst 0, 1) := by decide +kernel
theorem dX1_wipe_2 : decode cX1_wipe 2 = .ok (.putfield 36, 3) := by decide +kernel
theorem dX1_wipe_5 : decode cX1_wipe 5 = .ok (.iload_n 1, 1) := by decide +kernel
theorem dX1_wipe_6 : decode cX1_wipe 6 = .ok (.invokestatic 89, 3) := by decide +kernel
theorem dX1_wipe_9 : decode cX1_wipe 9 = .ok (.ifCond .ne 9, 3) := by decide +kernel
theorem dX1_wipe_12 : decode cX1_wipe 12 = .ok (.aload_n 0, 1) := by decide +kernel
theorem dX1_wipe_13 : decode cX1_wipe 13 = .ok (.iconst 1, 1) := by decide +kernel
theorem dX1_wipe_14 : decode cX1_wipe 14 = .ok (.invokevirtual 82, 3) := by decide +kernel
theorem dX1_wipe_17 : decode cX1_wipe 17 = .ok (.ireturn, 1) := by decide +kernel
theorem dX1_wipe_18 : decode cX1_wipe 18 = .ok (.aload_n 0, 1) := by decide +kernel
theorem dX1_wipe_19 : decode cX1_wipe 19 = .ok (.getfield 26, 3) := by decide +kernel
theorem dX1_wipe_22 : decode cX1_wipe 22 = .ok (.iload_n 1, 1) := by decide +kernel
theorem dX1_wipe_23 : decode cX1_wipe 23 = .ok (.iaload, 1) := by decide +kernel
theorem dX1_wipe_24 : decode cX1_wipe 24 = .ok (.istore_n 2, 1) := by decide +kernel
theorem dX1_wipe_25 : decode cX1_wipe 25 = .ok (.aload_n 0, 1) := by decide +kernel
theorem dX1_wipe_26 : decode cX1_wipe 26 = .ok (.getfield 26, 3) := by decide +kernel
theorem dX1_wipe_29 : decode cX1_wipe 29 = .ok (.iload_n 1, 1) := by decide +kernel
theorem dX1_wipe_30 : decode cX1_wipe 30 = .ok (.iconst 0, 1) := by decide +kernel
theorem dX1_wipe_31 : decode cX1_wipe 31 = .ok (.iastore, 1) := by decide +kernel
theorem dX1_wipe_32 : decode cX1_wipe 32 = .ok (.iload_n 2, 1) := by decide +kernel
theorem dX1_wipe_33 : decode cX1_wipe 33 = .ok (.ireturn, 1) := by decide +kernel
theorem dX1_taken_0 : decode cX1_taken 0 = .ok (.aload_n 0, 1) := by decide +kernel
theorem dX1_taken_1 : decode cX1_taken 1 = .ok (.getfield 26, 3) := by decide +kernel
theorem dX1_taken_4 : decode cX1_taken 4 = .ok (.iload_n 1, 1) := by decide +kernel
theorem dX1_taken_5 : decode cX1_taken 5 = .ok (.iaload, 1) := by decide +kernel
theorem dX1_taken_6 : decode cX1_taken 6 = .ok (.newarray .int, 2) := by decide +kernel
theorem dX1_taken_8 : decode cX1_taken 8 = .ok (.astore_n 2, 1) := by decide +kernel
theorem dX1_taken_9 : decode cX1_taken 9 = .ok (.aload_n 0, 1) := by decide +kernel
theorem dX1_taken_10 : decode cX1_taken 10 = .ok (.getfield 29, 3) := by decide +kernel
theorem dX1_taken_13 : decode cX1_taken 13 = .ok (.bipush 12, 2) := by decide +kernel
theorem dX1_taken_15 : decode cX1_taken 15 = .ok (.iload_n 1, 1) := by decide +kernel
theorem dX1_taken_16 : decode cX1_taken 16 = .ok (.imul, 1) := by decide +kernel
theorem dX1_taken_17 : decode cX1_taken 17 = .ok (.aload_n 2, 1) := by decide +kernel
theorem dX1_taken_18 : decode cX1_taken 18 = .ok (.iconst 0, 1) := by decide +kernel
theorem dX1_taken_19 : decode cX1_taken 19 = .ok (.aload_n 2, 1) := by decide +kernel
theorem dX1_taken_20 : decode cX1_taken 20 = .ok (.arraylength, 1) := by decide +kernel
theorem dX1_taken_21 : decode cX1_taken 21 = .ok (.invokestatic 100, 3) := by decide +kernel
theorem dX1_taken_24 : decode cX1_taken 24 = .ok (.aload_n 0, 1) := by decide +kernel
theorem dX1_taken_25 : decode cX1_taken 25 = .ok (.getfield 26, 3) := by decide +kernel
theorem dX1_taken_28 : decode cX1_taken 28 = .ok (.iload_n 1, 1) := by decide +kernel
theorem dX1_taken_29 : decode cX1_taken 29 = .ok (.iconst 0, 1) := by decide +kernel
theorem dX1_taken_30 : decode cX1_taken 30 = .ok (.iastore, 1) := by decide +kernel
theorem dX1_taken_31 : decode cX1_taken 31 = .ok (.aload_n 2, 1) := by decide +kernel
theorem dX1_taken_32 : decode cX1_taken 32 = .ok (.areturn, 1) := by decide +kernel
set_option maxRecDepth 20000 in
theorem ggX1_round_X1_isWord : GoodIn wsX1_round wsX1_isWord := goodIn_r _ [6, 7, 8, 5, 9] (by decide +kernel) (by decide +kernel)
set_option maxRecDepth 20000 in
theorem gX1_round_X1_isWord : GoodIn wsX1_round (va_wsS RX1 89 yX1_isWord wsX1_isWord) := goodIn_app (goodIn_of _ (by decide +kernel)) ggX1_round_X1_isWord
set_option maxRecDepth 20000 in
theorem ggX1_round_X1_no : GoodIn wsX1_round wsX1_no := goodIn_r _ [13, 1, 28, 29, 30, 31, 32, 33, 34] (by decide +kernel) (by decide +kernel)
set_option maxRecDepth 20000 in
theorem gX1_round_X1_no : GoodIn wsX1_round (wsV RX1 82 RX1 yX1_no wsX1_no) := goodIn_app (goodIn_of _ (by decide +kernel)) ggX1_round_X1_no
set_option maxRecDepth 20000 in
theorem ggX1_round_X1_taken : GoodIn wsX1_round wsX1_taken := goodIn_r _ [17, 2, 18, 19, 20, 21, 22, 23, 28, 29, 30, 31, 32, 33, 34] (by decide +kernel) (by decide +kernel)
set_option maxRecDepth 20000 in
theorem gX1_round_X1_taken : GoodIn wsX1_round (wsV RX1 106 RX1 yX1_taken wsX1_taken) := goodIn_app (goodIn_of _ (by decide +kernel)) ggX1_round_X1_taken
set_option maxRecDepth 20000 in
theorem ggX1_round_X1_put : GoodIn wsX1_round wsX1_put := goodIn_r _ [27, 19, 2, 28, 29, 30, 31, 32, 33, 34] (by decide +kernel) (by decide +kernel)
set_option maxRecDepth 20000 in
theorem gX1_round_X1_put : GoodIn wsX1_round (wsV RX1 96 RX1 yX1_put wsX1_put) := goodIn_app (goodIn_of _ (by decide +kernel)) ggX1_round_X1_put
theorem dX1_round_0 : decode cX1_round 0 = .ok (.aload_n 0, 1) := by decide +kernel
theorem dX1_round_1 : decode cX1_round 1 = .ok (.iconst 0, 1) := by decide +kernel
theorem dX1_round_2 : decode cX1_round 2 = .ok (.putfield 36, 3) := by decide +kernel
theorem dX1_round_5 : decode cX1_round 5 = .ok (.iload_n 1, 1) := by decide +kernel
theorem dX1_round_6 : decode cX1_round 6 = .ok (.invokestatic 89, 3) := by decide +kernel
theorem dX1_round_9 : decode cX1_round 9 = .ok (.ifCond .ne 9, 3) := by decide +kernel
theorem dX1_round_12 : decode cX1_round 12 = .ok (.aload_n 0, 1) := by decide +kernel
theorem dX1_round_13 : decode cX1_round 13 = .ok (.iconst 1, 1) := by decide +kernel
theorem dX1_round_14 : decode cX1_round 14 = .ok (.invokevirtual 82, 3) := by decide +kernel
theorem dX1_round_17 : decode cX1_round 17 = .ok (.ireturn, 1) := by decide +kernel
theorem dX1_round_18 : decode cX1_round 18 = .ok (.aload_n 0, 1) := by decide +kernel
theorem dX1_round_19 : decode cX1_round 19 = .ok (.iload_n 1, 1) := by decide +kernel
theorem dX1_round_20 : decode cX1_round 20 = .ok (.invokevirtual 106, 3) := by decide +kernel
theorem dX1_round_23 : decode cX1_round 23 = .ok (.astore_n 2, 1) := by decide +kernel
theorem dX1_round_24 : decode cX1_round 24 = .ok (.aload_n 2, 1) := by decide +kernel
theorem dX1_round_25 : decode cX1_round 25 = .ok (.arraylength, 1) := by decide +kernel
theorem dX1_round_26 : decode cX1_round 26 = .ok (.iconst 1, 1) := by decide +kernel
theorem dX1_round_27 : decode cX1_round 27 = .ok (.isub, 1) := by decide +kernel
theorem dX1_round_28 : decode cX1_round 28 = .ok (.istore_n 3, 1) := by decide +kernel
theorem dX1_round_29 : decode cX1_round 29 = .ok (.iload_n 3, 1) := by decide +kernel
theorem dX1_round_30 : decode cX1_round 30 = .ok (.ifCond .lt 29, 3) := by decide +kernel
theorem dX1_round_33 : decode cX1_round 33 = .ok (.aload_n 0, 1) := by decide +kernel
theorem dX1_round_34 : decode cX1_round 34 = .ok (.iload_n 1, 1) := by decide +kernel
theorem dX1_round_35 : decode cX1_round 35 = .ok (.aload_n 2, 1) := by decide +kernel
theorem dX1_round_36 : decode cX1_round 36 = .ok (.iload_n 3, 1) := by decide +kernel
theorem dX1_round_37 : decode cX1_round 37 = .ok (.iaload, 1) := by decide +kernel
theorem dX1_round_38 : decode cX1_round 38 = .ok (.iconst 3, 1) := by decide +kernel
theorem dX1_round_39 : decode cX1_round 39 = .ok (.idiv, 1) := by decide +kernel
theorem dX1_round_40 : decode cX1_round 40 = .ok (.iconst 3, 1) := by decide +kernel
theorem dX1_round_41 : decode cX1_round 41 = .ok (.imul, 1) := by decide +kernel
theorem dX1_round_42 : decode cX1_round 42 = .ok (.iconst 2, 1) := by decide +kernel
theorem dX1_round_43 : decode cX1_round 43 = .ok (.iadd, 1) := by decide +kernel
theorem dX1_round_44 : decode cX1_round 44 = .ok (.aload_n 2, 1) := by decide +kernel
theorem dX1_round_45 : decode cX1_round 45 = .ok (.iload_n 3, 1) := by decide +kernel
theorem dX1_round_46 : decode cX1_round 46 = .ok (.iaload, 1) := by decide +kernel
theorem dX1_round_47 : decode cX1_round 47 = .ok (.iconst 3, 1) := by decide +kernel
theorem dX1_round_48 : decode cX1_round 48 = .ok (.irem, 1) := by decide +kernel
theorem dX1_round_49 : decode cX1_round 49 = .ok (.isub, 1) := by decide +kernel
theorem dX1_round_50 : decode cX1_round 50 = .ok (.invokevirtual 96, 3) := by decide +kernel
theorem dX1_round_53 : decode cX1_round 53 = .ok (.iinc 3 (-1), 3) := by decide +kernel
theorem dX1_round_56 : decode cX1_round 56 = .ok (.goto (-27), 3) := by decide +kernel
theorem dX1_round_59 : decode cX1_round 59 = .ok (.aload_n 0, 1) := by decide +kernel
theorem dX1_round_60 : decode cX1_round 60 = .ok (.getfield 26, 3) := by decide +kernel
theorem dX1_round_63 : decode cX1_round 63 = .ok (.iload_n 1, 1) := by decide +kernel
theorem dX1_round_64 : decode cX1_round 64 = .ok (.iaload, 1) := by decide +kernel
theorem dX1_round_65 : decode cX1_round 65 = .ok (.ireturn, 1) := by decide +kernel
set_option maxRecDepth 20000 in
theorem ggX1_join_X1_isWord : GoodIn wsX1_join wsX1_isWord := goodIn_r _ [7, 8, 9, 6, 10] (by decide +kernel) (by decide +kernel)
set_option maxRecDepth 20000 in
theorem gX1_join_X1_isWord : GoodIn wsX1_join (va_wsS RX1 89 yX1_isWord wsX1_isWord) := goodIn_app (goodIn_of _ (by decide +kernel)) ggX1_join_X1_isWord
set_option maxRecDepth 20000 in
theorem ggX1_join_X1_no : GoodIn wsX1_join wsX1_no := goodIn_r _ [14, 1, 19, 20, 21, 22, 23, 24, 25] (by decide +kernel) (by decide +kernel)
set_option maxRecDepth 20000 in
theorem gX1_join_X1_no : GoodIn wsX1_join (wsV RX1 82 RX1 yX1_no wsX1_no) := goodIn_app (goodIn_of _ (by decide +kernel)) ggX1_join_X1_no
set_option maxRecDepth 20000 in
theorem ggX1_join_X1_put : GoodIn wsX1_join wsX1_put := goodIn_r _ [18, 3, 2, 19, 20, 21, 22, 23, 24, 25] (by decide +kernel) (by decide +kernel)
set_option maxRecDepth 20000 in
theorem gX1_join_X1_put : GoodIn wsX1_join (wsV RX1 96 RX1 yX1_put wsX1_put) := goodIn_app (goodIn_of _ (by decide +kernel)) ggX1_join_X1_put
theorem dX1_join_0 : decode cX1_join 0 = .ok (.aload_n 0, 1) := by decide +kernel
theorem dX1_join_1 : decode cX1_join 1 = .ok (.iconst 0, 1) := by decide +kernel
theorem dX1_join_2 : decode cX1_join 2 = .ok (.putfield 36, 3) := by decide +kernel
theorem dX1_join_5 : decode cX1_join 5 = .ok (.iload_n 1, 1) := by decide +kernel
theorem dX1_join_6 : decode cX1_join 6 = .ok (.invokestatic 89, 3) := by decide +kernel
theorem dX1_join_9 : decode cX1_join 9 = .ok (.ifCond .eq 10, 3) := by decide +kernel
theorem dX1_join_12 : decode cX1_join 12 = .ok (.iload_n 2, 1) := by decide +kernel
theorem dX1_join_13 : decode cX1_join 13 = .ok (.invokestatic 89, 3) := by decide +kernel
theorem dX1_join_16 : decode cX1_join 16 = .ok (.ifCond .ne 9, 3) := by decide +kernel
theorem dX1_join_19 : decode cX1_join 19 = .ok (.aload_n 0, 1) := by decide +kernel
theorem dX1_join_20 : decode cX1_join 20 = .ok (.iconst 1, 1) := by decide +kernel
theorem dX1_join_21 : decode cX1_join 21 = .ok (.invokevirtual 82, 3) := by decide +kernel
theorem dX1_join_24 : decode cX1_join 24 = .ok (.ireturn, 1) := by decide +kernel
theorem dX1_join_25 : decode cX1_join 25 = .ok (.aload_n 0, 1) := by decide +kernel
theorem dX1_join_26 : decode cX1_join 26 = .ok (.getfield 26, 3) := by decide +kernel
theorem dX1_join_29 : decode cX1_join 29 = .ok (.iload_n 2, 1) := by decide +kernel
theorem dX1_join_30 : decode cX1_join 30 = .ok (.iaload, 1) := by decide +kernel
theorem dX1_join_31 : decode cX1_join 31 = .ok (.istore_n 3, 1) := by decide +kernel
theorem dX1_join_32 : decode cX1_join 32 = .ok (.aload_n 0, 1) := by decide +kernel
theorem dX1_join_33 : decode cX1_join 33 = .ok (.getfield 26, 3) := by decide +kernel
theorem dX1_join_36 : decode cX1_join 36 = .ok (.iload_n 1, 1) := by decide +kernel
theorem dX1_join_37 : decode cX1_join 37 = .ok (.iaload, 1) := by decide +kernel
theorem dX1_join_38 : decode cX1_join 38 = .ok (.iload_n 3, 1) := by decide +kernel
theorem dX1_join_39 : decode cX1_join 39 = .ok (.iadd, 1) := by decide +kernel
theorem dX1_join_40 : decode cX1_join 40 = .ok (.bipush 12, 2) := by decide +kernel
theorem dX1_join_42 : decode cX1_join 42 = .ok (.if_icmp .le 9, 3) := by decide +kernel
theorem dX1_join_45 : decode cX1_join 45 = .ok (.aload_n 0, 1) := by decide +kernel
theorem dX1_join_46 : decode cX1_join 46 = .ok (.iconst 2, 1) := by decide +kernel
theorem dX1_join_47 : decode cX1_join 47 = .ok (.invokevirtual 82, 3) := by decide +kernel
theorem dX1_join_50 : decode cX1_join 50 = .ok (.ireturn, 1) := by decide +kernel
theorem dX1_join_51 : decode cX1_join 51 = .ok (.iconst 0, 1) := by decide +kernel
theorem dX1_join_52 : decode cX1_join 52 = .ok (.istore 4, 2) := by decide +kernel
theorem dX1_join_54 : decode cX1_join 54 = .ok (.iload 4, 2) := by decide +kernel
theorem dX1_join_56 : decode cX1_join 56 = .ok (.iload_n 3, 1) := by decide +kernel
theorem dX1_join_57 : decode cX1_join 57 = .ok (.if_icmp .ge 26, 3) := by decide +kernel
theorem dX1_join_60 : decode cX1_join 60 = .ok (.aload_n 0, 1) := by decide +kernel
theorem dX1_join_61 : decode cX1_join 61 = .ok (.iload_n 1, 1) := by decide +kernel
theorem dX1_join_62 : decode cX1_join 62 = .ok (.aload_n 0, 1) := by decide +kernel
theorem dX1_join_63 : decode cX1_join 63 = .ok (.getfield 29, 3) := by decide +kernel
theorem dX1_join_66 : decode cX1_join 66 = .ok (.bipush 12, 2) := by decide +kernel
theorem dX1_join_68 : decode cX1_join 68 = .ok (.iload_n 2, 1) := by decide +kernel
theorem dX1_join_69 : decode cX1_join 69 = .ok (.imul, 1) := by decide +kernel
theorem dX1_join_70 : decode cX1_join 70 = .ok (.iload 4, 2) := by decide +kernel
theorem dX1_join_72 : decode cX1_join 72 = .ok (.iadd, 1) := by decide +kernel
theorem dX1_join_73 : decode cX1_join 73 = .ok (.iaload, 1) := by decide +kernel
theorem dX1_join_74 : decode cX1_join 74 = .ok (.invokevirtual 96, 3) := by decide +kernel
theorem dX1_join_77 : decode cX1_join 77 = .ok (.iinc 4 1, 3) := by decide +kernel
theorem dX1_join_80 : decode cX1_join 80 = .ok (.goto (-26), 3) := by decide +kernel
theorem dX1_join_83 : decode cX1_join 83 = .ok (.aload_n 0, 1) := by decide +kernel
theorem dX1_join_84 : decode cX1_join 84 = .ok (.getfield 26, 3) := by decide +kernel
theorem dX1_join_87 : decode cX1_join 87 = .ok (.iload_n 1, 1) := by decide +kernel
theorem dX1_join_88 : decode cX1_join 88 = .ok (.iaload, 1) := by decide +kernel
theorem dX1_join_89 : decode cX1_join 89 = .ok (.ireturn, 1) := by decide +kernel
set_option maxRecDepth 20000 in
theorem ggX1_tidy_X1_isWord : GoodIn wsX1_tidy wsX1_isWord := goodIn_r _ [7, 8, 9, 6, 10] (by decide +kernel) (by decide +kernel)
set_option maxRecDepth 20000 in
theorem gX1_tidy_X1_isWord : GoodIn wsX1_tidy (va_wsS RX1 89 yX1_isWord wsX1_isWord) := goodIn_app (goodIn_of _ (by decide +kernel)) ggX1_tidy_X1_isWord
set_option maxRecDepth 20000 in
theorem ggX1_tidy_X1_no : GoodIn wsX1_tidy wsX1_no := goodIn_r _ [14, 1, 28, 29, 30, 31, 32, 33, 34] (by decide +kernel) (by decide +kernel)
set_option maxRecDepth 20000 in
theorem gX1_tidy_X1_no : GoodIn wsX1_tidy (wsV RX1 82 RX1 yX1_no wsX1_no) := goodIn_app (goodIn_of _ (by decide +kernel)) ggX1_tidy_X1_no
set_option maxRecDepth 20000 in
theorem ggX1_tidy_X1_taken : GoodIn wsX1_tidy wsX1_taken := goodIn_r _ [18, 2, 19, 3, 20, 21, 22, 23, 28, 29, 30, 31, 32, 33, 34] (by decide +kernel) (by decide +kernel)
set_option maxRecDepth 20000 in
theorem gX1_tidy_X1_taken : GoodIn wsX1_tidy (wsV RX1 106 RX1 yX1_taken wsX1_taken) := goodIn_app (goodIn_of _ (by decide +kernel)) ggX1_tidy_X1_taken
set_option maxRecDepth 20000 in
theorem ggX1_tidy_X1_put : GoodIn wsX1_tidy wsX1_put := goodIn_r _ [27, 3, 2, 28, 29, 30, 31, 32, 33, 34] (by decide +kernel) (by decide +kernel)
set_option maxRecDepth 20000 in
theorem gX1_tidy_X1_put : GoodIn wsX1_tidy (wsV RX1 96 RX1 yX1_put wsX1_put) := goodIn_app (goodIn_of _ (by decide +kernel)) ggX1_tidy_X1_put
theorem dX1_tidy_0 : decode cX1_tidy 0 = .ok (.aload_n 0, 1) := by decide +kernel
theorem dX1_tidy_1 : decode cX1_tidy 1 = .ok (.iconst 0, 1) := by decide +kernel
theorem dX1_tidy_2 : decode cX1_tidy 2 = .ok (.putfield 36, 3) := by decide +kernel
theorem dX1_tidy_5 : decode cX1_tidy 5 = .ok (.iload_n 1, 1) := by decide +kernel
theorem dX1_tidy_6 : decode cX1_tidy 6 = .ok (.invokestatic 89, 3) := by decide +kernel
theorem dX1_tidy_9 : decode cX1_tidy 9 = .ok (.ifCond .ne 9, 3) := by decide +kernel
theorem dX1_tidy_12 : decode cX1_tidy 12 = .ok (.aload_n 0, 1) := by decide +kernel
theorem dX1_tidy_13 : decode cX1_tidy 13 = .ok (.iconst 1, 1) := by decide +kernel
theorem dX1_tidy_14 : decode cX1_tidy 14 = .ok (.invokevirtual 82, 3) := by decide +kernel
theorem dX1_tidy_17 : decode cX1_tidy 17 = .ok (.ireturn, 1) := by decide +kernel
theorem dX1_tidy_18 : decode cX1_tidy 18 = .ok (.aload_n 0, 1) := by decide +kernel
theorem dX1_tidy_19 : decode cX1_tidy 19 = .ok (.iload_n 1, 1) := by decide +kernel
theorem dX1_tidy_20 : decode cX1_tidy 20 = .ok (.invokevirtual 106, 3) := by decide +kernel
theorem dX1_tidy_23 : decode cX1_tidy 23 = .ok (.astore_n 2, 1) := by decide +kernel
theorem dX1_tidy_24 : decode cX1_tidy 24 = .ok (.aload_n 2, 1) := by decide +kernel
theorem dX1_tidy_25 : decode cX1_tidy 25 = .ok (.arraylength, 1) := by decide +kernel
theorem dX1_tidy_26 : decode cX1_tidy 26 = .ok (.istore_n 3, 1) := by decide +kernel
theorem dX1_tidy_27 : decode cX1_tidy 27 = .ok (.iconst 0, 1) := by decide +kernel
theorem dX1_tidy_28 : decode cX1_tidy 28 = .ok (.istore 4, 2) := by decide +kernel
theorem dX1_tidy_30 : decode cX1_tidy 30 = .ok (.iload 4, 2) := by decide +kernel
theorem dX1_tidy_32 : decode cX1_tidy 32 = .ok (.iload_n 3, 1) := by decide +kernel
theorem dX1_tidy_33 : decode cX1_tidy 33 = .ok (.if_icmp .ge 116, 3) := by decide +kernel
theorem dX1_tidy_36 : decode cX1_tidy 36 = .ok (.aload_n 2, 1) := by decide +kernel
theorem dX1_tidy_37 : decode cX1_tidy 37 = .ok (.iload 4, 2) := by decide +kernel
theorem dX1_tidy_39 : decode cX1_tidy 39 = .ok (.iaload, 1) := by decide +kernel
theorem dX1_tidy_40 : decode cX1_tidy 40 = .ok (.istore 5, 2) := by decide +kernel
theorem dX1_tidy_42 : decode cX1_tidy 42 = .ok (.bipush 12, 2) := by decide +kernel
theorem dX1_tidy_44 : decode cX1_tidy 44 = .ok (.iload_n 1, 1) := by decide +kernel
theorem dX1_tidy_45 : decode cX1_tidy 45 = .ok (.imul, 1) := by decide +kernel
theorem dX1_tidy_46 : decode cX1_tidy 46 = .ok (.aload_n 0, 1) := by decide +kernel
theorem dX1_tidy_47 : decode cX1_tidy 47 = .ok (.getfield 26, 3) := by decide +kernel
theorem dX1_tidy_50 : decode cX1_tidy 50 = .ok (.iload_n 1, 1) := by decide +kernel
theorem dX1_tidy_51 : decode cX1_tidy 51 = .ok (.iaload, 1) := by decide +kernel
theorem dX1_tidy_52 : decode cX1_tidy 52 = .ok (.iadd, 1) := by decide +kernel
theorem dX1_tidy_53 : decode cX1_tidy 53 = .ok (.iconst 1, 1) := by decide +kernel
theorem dX1_tidy_54 : decode cX1_tidy 54 = .ok (.isub, 1) := by decide +kernel
theorem dX1_tidy_55 : decode cX1_tidy 55 = .ok (.istore 6, 2) := by decide +kernel
theorem dX1_tidy_57 : decode cX1_tidy 57 = .ok (.aload_n 0, 1) := by decide +kernel
theorem dX1_tidy_58 : decode cX1_tidy 58 = .ok (.getfield 26, 3) := by decide +kernel
theorem dX1_tidy_61 : decode cX1_tidy 61 = .ok (.iload_n 1, 1) := by decide +kernel
theorem dX1_tidy_62 : decode cX1_tidy 62 = .ok (.iaload, 1) := by decide +kernel
theorem dX1_tidy_63 : decode cX1_tidy 63 = .ok (.ifCond .eq 19, 3) := by decide +kernel
theorem dX1_tidy_66 : decode cX1_tidy 66 = .ok (.aload_n 0, 1) := by decide +kernel
theorem dX1_tidy_67 : decode cX1_tidy 67 = .ok (.getfield 29, 3) := by decide +kernel
theorem dX1_tidy_70 : decode cX1_tidy 70 = .ok (.iload 6, 2) := by decide +kernel
theorem dX1_tidy_72 : decode cX1_tidy 72 = .ok (.iaload, 1) := by decide +kernel
theorem dX1_tidy_73 : decode cX1_tidy 73 = .ok (.iconst 3, 1) := by decide +kernel
theorem dX1_tidy_74 : decode cX1_tidy 74 = .ok (.idiv, 1) := by decide +kernel
theorem dX1_tidy_75 : decode cX1_tidy 75 = .ok (.iload 5, 2) := by decide +kernel
theorem dX1_tidy_77 : decode cX1_tidy 77 = .ok (.iconst 3, 1) := by decide +kernel
theorem dX1_tidy_78 : decode cX1_tidy 78 = .ok (.idiv, 1) := by decide +kernel
theorem dX1_tidy_79 : decode cX1_tidy 79 = .ok (.if_icmp .eq 13, 3) := by decide +kernel
theorem dX1_tidy_82 : decode cX1_tidy 82 = .ok (.aload_n 0, 1) := by decide +kernel
theorem dX1_tidy_83 : decode cX1_tidy 83 = .ok (.iload_n 1, 1) := by decide +kernel
theorem dX1_tidy_84 : decode cX1_tidy 84 = .ok (.iload 5, 2) := by decide +kernel
theorem dX1_tidy_86 : decode cX1_tidy 86 = .ok (.invokevirtual 96, 3) := by decide +kernel
theorem dX1_tidy_89 : decode cX1_tidy 89 = .ok (.goto 54, 3) := by decide +kernel
theorem dX1_tidy_92 : decode cX1_tidy 92 = .ok (.aload_n 0, 1) := by decide +kernel
theorem dX1_tidy_93 : decode cX1_tidy 93 = .ok (.getfield 29, 3) := by decide +kernel
theorem dX1_tidy_96 : decode cX1_tidy 96 = .ok (.iload 6, 2) := by decide +kernel
theorem dX1_tidy_98 : decode cX1_tidy 98 = .ok (.iaload, 1) := by decide +kernel
theorem dX1_tidy_99 : decode cX1_tidy 99 = .ok (.iconst 3, 1) := by decide +kernel
theorem dX1_tidy_100 : decode cX1_tidy 100 = .ok (.irem, 1) := by decide +kernel
theorem dX1_tidy_101 : decode cX1_tidy 101 = .ok (.iload 5, 2) := by decide +kernel
theorem dX1_tidy_103 : decode cX1_tidy 103 = .ok (.iconst 3, 1) := by decide +kernel
theorem dX1_tidy_104 : decode cX1_tidy 104 = .ok (.irem, 1) := by decide +kernel
theorem dX1_tidy_105 : decode cX1_tidy 105 = .ok (.iadd, 1) := by decide +kernel
theorem dX1_tidy_106 : decode cX1_tidy 106 = .ok (.iconst 2, 1) := by decide +kernel
theorem dX1_tidy_107 : decode cX1_tidy 107 = .ok (.iadd, 1) := by decide +kernel
theorem dX1_tidy_108 : decode cX1_tidy 108 = .ok (.iconst 4, 1) := by decide +kernel
theorem dX1_tidy_109 : decode cX1_tidy 109 = .ok (.irem, 1) := by decide +kernel
theorem dX1_tidy_110 : decode cX1_tidy 110 = .ok (.istore 7, 2) := by decide +kernel
theorem dX1_tidy_112 : decode cX1_tidy 112 = .ok (.aload_n 0, 1) := by decide +kernel
theorem dX1_tidy_113 : decode cX1_tidy 113 = .ok (.getfield 26, 3) := by decide +kernel
theorem dX1_tidy_116 : decode cX1_tidy 116 = .ok (.iload_n 1, 1) := by decide +kernel
theorem dX1_tidy_117 : decode cX1_tidy 117 = .ok (.dup2, 1) := by decide +kernel
theorem dX1_tidy_118 : decode cX1_tidy 118 = .ok (.iaload, 1) := by decide +kernel
theorem dX1_tidy_119 : decode cX1_tidy 119 = .ok (.iconst 1, 1) := by decide +kernel
theorem dX1_tidy_120 : decode cX1_tidy 120 = .ok (.isub, 1) := by decide +kernel
theorem dX1_tidy_121 : decode cX1_tidy 121 = .ok (.iastore, 1) := by decide +kernel
theorem dX1_tidy_122 : decode cX1_tidy 122 = .ok (.iload 7, 2) := by decide +kernel
theorem dX1_tidy_124 : decode cX1_tidy 124 = .ok (.ifCond .le 19, 3) := by decide +kernel
theorem dX1_tidy_127 : decode cX1_tidy 127 = .ok (.aload_n 0, 1) := by decide +kernel
theorem dX1_tidy_128 : decode cX1_tidy 128 = .ok (.iload_n 1, 1) := by decide +kernel
theorem dX1_tidy_129 : decode cX1_tidy 129 = .ok (.iload 5, 2) := by decide +kernel
theorem dX1_tidy_131 : decode cX1_tidy 131 = .ok (.iconst 3, 1) := by decide +kernel
theorem dX1_tidy_132 : decode cX1_tidy 132 = .ok (.idiv, 1) := by decide +kernel
theorem dX1_tidy_133 : decode cX1_tidy 133 = .ok (.iconst 3, 1) := by decide +kernel
theorem dX1_tidy_134 : decode cX1_tidy 134 = .ok (.imul, 1) := by decide +kernel
theorem dX1_tidy_135 : decode cX1_tidy 135 = .ok (.iload 7, 2) := by decide +kernel
theorem dX1_tidy_137 : decode cX1_tidy 137 = .ok (.iadd, 1) := by decide +kernel
theorem dX1_tidy_138 : decode cX1_tidy 138 = .ok (.iconst 1, 1) := by decide +kernel
theorem dX1_tidy_139 : decode cX1_tidy 139 = .ok (.isub, 1) := by decide +kernel
theorem dX1_tidy_140 : decode cX1_tidy 140 = .ok (.invokevirtual 96, 3) := by decide +kernel
theorem dX1_tidy_143 : decode cX1_tidy 143 = .ok (.iinc 4 1, 3) := by decide +kernel
theorem dX1_tidy_146 : decode cX1_tidy 146 = .ok (.goto (-116), 3) := by decide +kernel
theorem dX1_tidy_149 : decode cX1_tidy 149 = .ok (.aload_n 0, 1) := by decide +kernel
theorem dX1_tidy_150 : decode cX1_tidy 150 = .ok (.getfield 26, 3) := by decide +kernel
theorem dX1_tidy_153 : decode cX1_tidy 153 = .ok (.iload_n 1, 1) := by decide +kernel
theorem dX1_tidy_154 : decode cX1_tidy 154 = .ok (.iaload, 1) := by decide +kernel
theorem dX1_tidy_155 : decode cX1_tidy 155 = .ok (.ireturn, 1) := by decide +kernel
set_option maxRecDepth 20000 in
theorem ggX1_placeTold_X1_isRight : GoodIn wsX1_placeTold wsX1_isRight := goodIn_r _ [5] (by decide +kernel) (by decide +kernel)
set_option maxRecDepth 20000 in
theorem gX1_placeTold_X1_isRight : GoodIn wsX1_placeTold (va_wsS RX1 109 yX1_isRight wsX1_isRight) := goodIn_app (goodIn_of _ (by decide +kernel)) ggX1_placeTold_X1_isRight
theorem dX1_placeTold_0 : decode cX1_placeTold 0 = .ok (.iload_n 2, 1) := by decide +kernel
theorem dX1_placeTold_1 : decode cX1_placeTold 1 = .ok (.ifCond .ne 12, 3) := by decide +kernel
theorem dX1_placeTold_4 : decode cX1_placeTold 4 = .ok (.aload_n 0, 1) := by decide +kernel
theorem dX1_placeTold_5 : decode cX1_placeTold 5 = .ok (.getfield 13, 3) := by decide +kernel
theorem dX1_placeTold_8 : decode cX1_placeTold 8 = .ok (.iload_n 1, 1) := by decide +kernel
theorem dX1_placeTold_9 : decode cX1_placeTold 9 = .ok (.iaload, 1) := by decide +kernel
theorem dX1_placeTold_10 : decode cX1_placeTold 10 = .ok (.goto 36, 3) := by decide +kernel
theorem dX1_placeTold_13 : decode cX1_placeTold 13 = .ok (.iload_n 2, 1) := by decide +kernel
theorem dX1_placeTold_14 : decode cX1_placeTold 14 = .ok (.iconst 1, 1) := by decide +kernel
theorem dX1_placeTold_15 : decode cX1_placeTold 15 = .ok (.if_icmp .ne 15, 3) := by decide +kernel
theorem dX1_placeTold_18 : decode cX1_placeTold 18 = .ok (.aload_n 0, 1) := by decide +kernel
theorem dX1_placeTold_19 : decode cX1_placeTold 19 = .ok (.getfield 13, 3) := by decide +kernel
theorem dX1_placeTold_22 : decode cX1_placeTold 22 = .ok (.bipush 8, 2) := by decide +kernel
theorem dX1_placeTold_24 : decode cX1_placeTold 24 = .ok (.iload_n 1, 1) := by decide +kernel
theorem dX1_placeTold_25 : decode cX1_placeTold 25 = .ok (.iadd, 1) := by decide +kernel
theorem dX1_placeTold_26 : decode cX1_placeTold 26 = .ok (.iaload, 1) := by decide +kernel
theorem dX1_placeTold_27 : decode cX1_placeTold 27 = .ok (.goto 19, 3) := by decide +kernel
theorem dX1_placeTold_30 : decode cX1_placeTold 30 = .ok (.aload_n 0, 1) := by decide +kernel
theorem dX1_placeTold_31 : decode cX1_placeTold 31 = .ok (.getfield 13, 3) := by decide +kernel
theorem dX1_placeTold_34 : decode cX1_placeTold 34 = .ok (.iload_n 1, 1) := by decide +kernel
theorem dX1_placeTold_35 : decode cX1_placeTold 35 = .ok (.invokestatic 109, 3) := by decide +kernel
theorem dX1_placeTold_38 : decode cX1_placeTold 38 = .ok (.ifCond .eq 7, 3) := by decide +kernel
theorem dX1_placeTold_41 : decode cX1_placeTold 41 = .ok (.iconst 1, 1) := by decide +kernel
theorem dX1_placeTold_42 : decode cX1_placeTold 42 = .ok (.goto 4, 3) := by decide +kernel
theorem dX1_placeTold_45 : decode cX1_placeTold 45 = .ok (.iconst 0, 1) := by decide +kernel
theorem dX1_placeTold_46 : decode cX1_placeTold 46 = .ok (.ireturn, 1) := by decide +kernel
set_option maxRecDepth 20000 in
theorem ggX1_told_X1_isIn : GoodIn wsX1_told wsX1_isIn := goodIn_r _ [5] (by decide +kernel) (by decide +kernel)
set_option maxRecDepth 20000 in
theorem gX1_told_X1_isIn : GoodIn wsX1_told (va_wsS RX1 40 yX1_isIn wsX1_isIn) := goodIn_app (goodIn_of _ (by decide +kernel)) ggX1_told_X1_isIn
set_option maxRecDepth 20000 in
theorem ggX1_told_X1_placeTold : GoodIn wsX1_told wsX1_placeTold := goodIn_r _ [9, 10, 11, 12, 4, 13, 18, 19, 20, 21, 22, 23, 24] (by decide +kernel) (by decide +kernel)
set_option maxRecDepth 20000 in
theorem gX1_told_X1_placeTold : GoodIn wsX1_told (wsV RX1 113 RX1 yX1_placeTold wsX1_placeTold) := goodIn_app (goodIn_of _ (by decide +kernel)) ggX1_told_X1_placeTold
set_option maxRecDepth 20000 in
theorem ggX1_told_X1_no : GoodIn wsX1_told wsX1_no := goodIn_r _ [17, 1, 18, 19, 20, 21, 22, 23, 24] (by decide +kernel) (by decide +kernel)
set_option maxRecDepth 20000 in
theorem gX1_told_X1_no : GoodIn wsX1_told (wsV RX1 82 RX1 yX1_no wsX1_no) := goodIn_app (goodIn_of _ (by decide +kernel)) ggX1_told_X1_no
theorem dX1_told_0 : decode cX1_told 0 = .ok (.aload_n 0, 1) := by decide +kernel
theorem dX1_told_1 : decode cX1_told 1 = .ok (.iconst 0, 1) := by decide +kernel
theorem dX1_told_2 : decode cX1_told 2 = .ok (.putfield 36, 3) := by decide +kernel
theorem dX1_told_5 : decode cX1_told 5 = .ok (.iload_n 1, 1) := by decide +kernel
theorem dX1_told_6 : decode cX1_told 6 = .ok (.iconst 0, 1) := by decide +kernel
theorem dX1_told_7 : decode cX1_told 7 = .ok (.bipush 7, 2) := by decide +kernel
theorem dX1_told_9 : decode cX1_told 9 = .ok (.invokestatic 40, 3) := by decide +kernel
theorem dX1_told_12 : decode cX1_told 12 = .ok (.ifCond .eq 21, 3) := by decide +kernel
theorem dX1_told_15 : decode cX1_told 15 = .ok (.iload_n 2, 1) := by decide +kernel
theorem dX1_told_16 : decode cX1_told 16 = .ok (.iconst 0, 1) := by decide +kernel
theorem dX1_told_17 : decode cX1_told 17 = .ok (.iconst 2, 1) := by decide +kernel
theorem dX1_told_18 : decode cX1_told 18 = .ok (.invokestatic 40, 3) := by decide +kernel
theorem dX1_told_21 : decode cX1_told 21 = .ok (.ifCond .eq 12, 3) := by decide +kernel
theorem dX1_told_24 : decode cX1_told 24 = .ok (.aload_n 0, 1) := by decide +kernel
theorem dX1_told_25 : decode cX1_told 25 = .ok (.iload_n 1, 1) := by decide +kernel
theorem dX1_told_26 : decode cX1_told 26 = .ok (.iload_n 2, 1) := by decide +kernel
theorem dX1_told_27 : decode cX1_told 27 = .ok (.invokevirtual 113, 3) := by decide +kernel
theorem dX1_told_30 : decode cX1_told 30 = .ok (.goto 8, 3) := by decide +kernel
theorem dX1_told_33 : decode cX1_told 33 = .ok (.aload_n 0, 1) := by decide +kernel
theorem dX1_told_34 : decode cX1_told 34 = .ok (.iconst 1, 1) := by decide +kernel
theorem dX1_told_35 : decode cX1_told 35 = .ok (.invokevirtual 82, 3) := by decide +kernel
theorem dX1_told_38 : decode cX1_told 38 = .ok (.ireturn, 1) := by decide +kernel
set_option maxRecDepth 20000 in
theorem ggX1_where_X1_isIn : GoodIn wsX1_where wsX1_isIn := goodIn_r _ [6] (by decide +kernel) (by decide +kernel)
set_option maxRecDepth 20000 in
theorem gX1_where_X1_isIn : GoodIn wsX1_where (va_wsS RX1 40 yX1_isIn wsX1_isIn) := goodIn_app (goodIn_of _ (by decide +kernel)) ggX1_where_X1_isIn
set_option maxRecDepth 20000 in
theorem ggX1_where_X1_back : GoodIn wsX1_where wsX1_back := goodIn_r _ [9, 10] (by decide +kernel) (by decide +kernel)
set_option maxRecDepth 20000 in
theorem gX1_where_X1_back : GoodIn wsX1_where (va_wsS RX1 116 yX1_back wsX1_back) := goodIn_app (goodIn_of _ (by decide +kernel)) ggX1_where_X1_back
set_option maxRecDepth 20000 in
theorem ggX1_where_X1_no : GoodIn wsX1_where wsX1_no := goodIn_r _ [14, 1, 15, 16, 17, 18, 19, 20, 21] (by decide +kernel) (by decide +kernel)
set_option maxRecDepth 20000 in
theorem gX1_where_X1_no : GoodIn wsX1_where (wsV RX1 82 RX1 yX1_no wsX1_no) := goodIn_app (goodIn_of _ (by decide +kernel)) ggX1_where_X1_no
theorem dX1_where_0 : decode cX1_where 0 = .ok (.aload_n 0, 1) := by decide +kernel
theorem dX1_where_1 : decode cX1_where 1 = .ok (.iconst 0, 1) := by decide +kernel
theorem dX1_where_2 : decode cX1_where 2 = .ok (.putfield 36, 3) := by decide +kernel
theorem dX1_where_5 : decode cX1_where 5 = .ok (.iload_n 1, 1) := by decide +kernel
theorem dX1_where_6 : decode cX1_where 6 = .ok (.iconst 0, 1) := by decide +kernel
theorem dX1_where_7 : decode cX1_where 7 = .ok (.bipush 7, 2) := by decide +kernel
theorem dX1_where_9 : decode cX1_where 9 = .ok (.invokestatic 40, 3) := by decide +kernel
theorem dX1_where_12 : decode cX1_where 12 = .ok (.ifCond .eq 15, 3) := by decide +kernel
theorem dX1_where_15 : decode cX1_where 15 = .ok (.aload_n 0, 1) := by decide +kernel
theorem dX1_where_16 : decode cX1_where 16 = .ok (.getfield 13, 3) := by decide +kernel
theorem dX1_where_19 : decode cX1_where 19 = .ok (.invokestatic 116, 3) := by decide +kernel
theorem dX1_where_22 : decode cX1_where 22 = .ok (.iload_n 1, 1) := by decide +kernel
theorem dX1_where_23 : decode cX1_where 23 = .ok (.iaload, 1) := by decide +kernel
theorem dX1_where_24 : decode cX1_where 24 = .ok (.goto 8, 3) := by decide +kernel
theorem dX1_where_27 : decode cX1_where 27 = .ok (.aload_n 0, 1) := by decide +kernel
theorem dX1_where_28 : decode cX1_where 28 = .ok (.iconst 1, 1) := by decide +kernel
theorem dX1_where_29 : decode cX1_where 29 = .ok (.invokevirtual 82, 3) := by decide +kernel
theorem dX1_where_32 : decode cX1_where 32 = .ok (.ireturn, 1) := by decide +kernel
theorem dX1_allTurns_0 : decode cX1_allTurns 0 = .ok (.iconst 0, 1) := by decide +kernel
theorem dX1_allTurns_1 : decode cX1_allTurns 1 = .ok (.istore_n 1, 1) := by decide +kernel
theorem dX1_allTurns_2 : decode cX1_allTurns 2 = .ok (.aload_n 0, 1) := by decide +kernel
theorem dX1_allTurns_3 : decode cX1_allTurns 3 = .ok (.getfield 26, 3) := by decide +kernel
theorem dX1_allTurns_6 : decode cX1_allTurns 6 = .ok (.astore_n 2, 1) := by decide +kernel
theorem dX1_allTurns_7 : decode cX1_allTurns 7 = .ok (.aload_n 2, 1) := by decide +kernel
theorem dX1_allTurns_8 : decode cX1_allTurns 8 = .ok (.arraylength, 1) := by decide +kernel
theorem dX1_allTurns_9 : decode cX1_allTurns 9 = .ok (.istore_n 3, 1) := by decide +kernel
theorem dX1_allTurns_10 : decode cX1_allTurns 10 = .ok (.iconst 0, 1) := by decide +kernel
theorem dX1_allTurns_11 : decode cX1_allTurns 11 = .ok (.istore 4, 2) := by decide +kernel
theorem dX1_allTurns_13 : decode cX1_allTurns 13 = .ok (.iload 4, 2) := by decide +kernel
theorem dX1_allTurns_15 : decode cX1_allTurns 15 = .ok (.iload_n 3, 1) := by decide +kernel
theorem dX1_allTurns_16 : decode cX1_allTurns 16 = .ok (.if_icmp .ge 20, 3) := by decide +kernel
theorem dX1_allTurns_19 : decode cX1_allTurns 19 = .ok (.aload_n 2, 1) := by decide +kernel
theorem dX1_allTurns_20 : decode cX1_allTurns 20 = .ok (.iload 4, 2) := by decide +kernel
theorem dX1_allTurns_22 : decode cX1_allTurns 22 = .ok (.iaload, 1) := by decide +kernel
theorem dX1_allTurns_23 : decode cX1_allTurns 23 = .ok (.istore 5, 2) := by decide +kernel
theorem dX1_allTurns_25 : decode cX1_allTurns 25 = .ok (.iload_n 1, 1) := by decide +kernel
theorem dX1_allTurns_26 : decode cX1_allTurns 26 = .ok (.iload 5, 2) := by decide +kernel
theorem dX1_allTurns_28 : decode cX1_allTurns 28 = .ok (.iadd, 1) := by decide +kernel
theorem dX1_allTurns_29 : decode cX1_allTurns 29 = .ok (.istore_n 1, 1) := by decide +kernel
theorem dX1_allTurns_30 : decode cX1_allTurns 30 = .ok (.iinc 4 1, 3) := by decide +kernel
theorem dX1_allTurns_33 : decode cX1_allTurns 33 = .ok (.goto (-20), 3) := by decide +kernel
theorem dX1_allTurns_36 : decode cX1_allTurns 36 = .ok (.iload_n 1, 1) := by decide +kernel
theorem dX1_allTurns_37 : decode cX1_allTurns 37 = .ok (.ireturn, 1) := by decide +kernel
set_option maxRecDepth 20000 in
theorem ggX1_counted_X1_many : GoodIn wsX1_counted wsX1_many := goodIn_r _ [6] (by decide +kernel) (by decide +kernel)
set_option maxRecDepth 20000 in
theorem gX1_counted_X1_many : GoodIn wsX1_counted (va_wsS RX1 74 yX1_many wsX1_many) := goodIn_app (goodIn_of _ (by decide +kernel)) ggX1_counted_X1_many
set_option maxRecDepth 20000 in
theorem ggX1_counted_X1_byCycles : GoodIn wsX1_counted wsX1_byCycles := goodIn_r _ [9, 10, 11, 12, 13, 14, 15, 5, 16] (by decide +kernel) (by decide +kernel)
set_option maxRecDepth 20000 in
theorem gX1_counted_X1_byCycles : GoodIn wsX1_counted (va_wsS RX1 120 yX1_byCycles wsX1_byCycles) := goodIn_app (goodIn_of _ (by decide +kernel)) ggX1_counted_X1_byCycles
set_option maxRecDepth 20000 in
theorem ggX1_counted_X1_allTurns : GoodIn wsX1_counted wsX1_allTurns := goodIn_r _ [20, 21, 22, 23, 24, 25, 26, 27, 28] (by decide +kernel) (by decide +kernel)
set_option maxRecDepth 20000 in
theorem gX1_counted_X1_allTurns : GoodIn wsX1_counted (wsV RX1 124 RX1 yX1_allTurns wsX1_allTurns) := goodIn_app (goodIn_of _ (by decide +kernel)) ggX1_counted_X1_allTurns
theorem dX1_counted_0 : decode cX1_counted 0 = .ok (.iload_n 1, 1) := by decide +kernel
theorem dX1_counted_1 : decode cX1_counted 1 = .ok (.tableswitch 71 0 5 #[39, 44, 44, 44, 53, 62], 39) := by decide +kernel
theorem dX1_counted_40 : decode cX1_counted 40 = .ok (.aload_n 0, 1) := by decide +kernel
theorem dX1_counted_41 : decode cX1_counted 41 = .ok (.getfield 86, 3) := by decide +kernel
theorem dX1_counted_44 : decode cX1_counted 44 = .ok (.ireturn, 1) := by decide +kernel
theorem dX1_counted_45 : decode cX1_counted 45 = .ok (.aload_n 0, 1) := by decide +kernel
theorem dX1_counted_46 : decode cX1_counted 46 = .ok (.getfield 13, 3) := by decide +kernel
theorem dX1_counted_49 : decode cX1_counted 49 = .ok (.iload_n 1, 1) := by decide +kernel
theorem dX1_counted_50 : decode cX1_counted 50 = .ok (.invokestatic 74, 3) := by decide +kernel
theorem dX1_counted_53 : decode cX1_counted 53 = .ok (.ireturn, 1) := by decide +kernel
theorem dX1_counted_54 : decode cX1_counted 54 = .ok (.aload_n 0, 1) := by decide +kernel
theorem dX1_counted_55 : decode cX1_counted 55 = .ok (.getfield 13, 3) := by decide +kernel
theorem dX1_counted_58 : decode cX1_counted 58 = .ok (.iconst 1, 1) := by decide +kernel
theorem dX1_counted_59 : decode cX1_counted 59 = .ok (.invokestatic 120, 3) := by decide +kernel
theorem dX1_counted_62 : decode cX1_counted 62 = .ok (.ireturn, 1) := by decide +kernel
theorem dX1_counted_63 : decode cX1_counted 63 = .ok (.aload_n 0, 1) := by decide +kernel
theorem dX1_counted_64 : decode cX1_counted 64 = .ok (.getfield 13, 3) := by decide +kernel
theorem dX1_counted_67 : decode cX1_counted 67 = .ok (.iconst 0, 1) := by decide +kernel
theorem dX1_counted_68 : decode cX1_counted 68 = .ok (.invokestatic 120, 3) := by decide +kernel
theorem dX1_counted_71 : decode cX1_counted 71 = .ok (.ireturn, 1) := by decide +kernel
theorem dX1_counted_72 : decode cX1_counted 72 = .ok (.aload_n 0, 1) := by decide +kernel
theorem dX1_counted_73 : decode cX1_counted 73 = .ok (.invokevirtual 124, 3) := by decide +kernel
theorem dX1_counted_76 : decode cX1_counted 76 = .ok (.ireturn, 1) := by decide +kernel
set_option maxRecDepth 20000 in
theorem ggX1_count_X1_isIn : GoodIn wsX1_count wsX1_isIn := goodIn_r _ [5] (by decide +kernel) (by decide +kernel)
set_option maxRecDepth 20000 in
theorem gX1_count_X1_isIn : GoodIn wsX1_count (va_wsS RX1 40 yX1_isIn wsX1_isIn) := goodIn_app (goodIn_of _ (by decide +kernel)) ggX1_count_X1_isIn
set_option maxRecDepth 20000 in
theorem ggX1_count_X1_counted : GoodIn wsX1_count wsX1_counted := goodIn_r _ [9, 10, 11, 12, 13, 4, 14, 15, 16, 17, 18, 19, 20, 21, 22, 23, 24, 25, 26, 27, 28, 29, 34, 35, 36, 37, 38, 39, 40] (by decide +kernel) (by decide +kernel)
set_option maxRecDepth 20000 in
theorem gX1_count_X1_counted : GoodIn wsX1_count (wsV RX1 128 RX1 yX1_counted wsX1_counted) := goodIn_app (goodIn_of _ (by decide +kernel)) ggX1_count_X1_counted
set_option maxRecDepth 20000 in
theorem ggX1_count_X1_no : GoodIn wsX1_count wsX1_no := goodIn_r _ [33, 1, 34, 35, 36, 37, 38, 39, 40] (by decide +kernel) (by decide +kernel)
set_option maxRecDepth 20000 in
theorem gX1_count_X1_no : GoodIn wsX1_count (wsV RX1 82 RX1 yX1_no wsX1_no) := goodIn_app (goodIn_of _ (by decide +kernel)) ggX1_count_X1_no
theorem dX1_count_0 : decode cX1_count 0 = .ok (.aload_n 0, 1) := by decide +kernel
theorem dX1_count_1 : decode cX1_count 1 = .ok (.iconst 0, 1) := by decide +kernel
theorem dX1_count_2 : decode cX1_count 2 = .ok (.putfield 36, 3) := by decide +kernel
theorem dX1_count_5 : decode cX1_count 5 = .ok (.iload_n 1, 1) := by decide +kernel
theorem dX1_count_6 : decode cX1_count 6 = .ok (.iconst 0, 1) := by decide +kernel
theorem dX1_count_7 : decode cX1_count 7 = .ok (.bipush 6, 2) := by decide +kernel
theorem dX1_count_9 : decode cX1_count 9 = .ok (.invokestatic 40, 3) := by decide +kernel
theorem dX1_count_12 : decode cX1_count 12 = .ok (.ifCond .eq 11, 3) := by decide +kernel
theorem dX1_count_15 : decode cX1_count 15 = .ok (.aload_n 0, 1) := by decide +kernel
theorem dX1_count_16 : decode cX1_count 16 = .ok (.iload_n 1, 1) := by decide +kernel
theorem dX1_count_17 : decode cX1_count 17 = .ok (.invokevirtual 128, 3) := by decide +kernel
theorem dX1_count_20 : decode cX1_count 20 = .ok (.goto 8, 3) := by decide +kernel
theorem dX1_count_23 : decode cX1_count 23 = .ok (.aload_n 0, 1) := by decide +kernel
theorem dX1_count_24 : decode cX1_count 24 = .ok (.iconst 1, 1) := by decide +kernel
theorem dX1_count_25 : decode cX1_count 25 = .ok (.invokevirtual 82, 3) := by decide +kernel
theorem dX1_count_28 : decode cX1_count 28 = .ok (.ireturn, 1) := by decide +kernel
set_option maxRecDepth 20000 in
theorem ggX1_wordTold_X1_rowOf : GoodIn wsX1_wordTold wsX1_rowOf := goodIn_r _ [6, 1, 7, 8, 9, 5, 10, 11, 12, 13, 14, 15, 16, 17, 18, 19, 20, 21, 22, 36, 37, 38, 39, 40, 41, 42] (by decide +kernel) (by decide +kernel)
set_option maxRecDepth 20000 in
theorem gX1_wordTold_X1_rowOf : GoodIn wsX1_wordTold (wsV RX1 93 RX1 yX1_rowOf wsX1_rowOf) := goodIn_app (goodIn_of _ (by decide +kernel)) ggX1_wordTold_X1_rowOf
set_option maxRecDepth 20000 in
theorem ggX1_wordTold_X1_byCycles : GoodIn wsX1_wordTold wsX1_byCycles := goodIn_r _ [25, 26, 27, 28, 29, 30, 31, 5, 32] (by decide +kernel) (by decide +kernel)
set_option maxRecDepth 20000 in
theorem gX1_wordTold_X1_byCycles : GoodIn wsX1_wordTold (va_wsS RX1 120 yX1_byCycles wsX1_byCycles) := goodIn_app (goodIn_of _ (by decide +kernel)) ggX1_wordTold_X1_byCycles
set_option maxRecDepth 20000 in
theorem ggX1_wordTold_X1_many : GoodIn wsX1_wordTold wsX1_many := goodIn_r _ [35] (by decide +kernel) (by decide +kernel)
set_option maxRecDepth 20000 in
theorem gX1_wordTold_X1_many : GoodIn wsX1_wordTold (va_wsS RX1 74 yX1_many wsX1_many) := goodIn_app (goodIn_of _ (by decide +kernel)) ggX1_wordTold_X1_many
theorem dX1_wordTold_0 : decode cX1_wordTold 0 = .ok (.aload_n 0, 1) := by decide +kernel
theorem dX1_wordTold_1 : decode cX1_wordTold 1 = .ok (.iload_n 1, 1) := by decide +kernel
theorem dX1_wordTold_2 : decode cX1_wordTold 2 = .ok (.invokevirtual 93, 3) := by decide +kernel
theorem dX1_wordTold_5 : decode cX1_wordTold 5 = .ok (.astore_n 3, 1) := by decide +kernel
theorem dX1_wordTold_6 : decode cX1_wordTold 6 = .ok (.iload_n 2, 1) := by decide +kernel
theorem dX1_wordTold_7 : decode cX1_wordTold 7 = .ok (.lookupswitch 38 #[(0, 25), (1, 32)], 25) := by decide +kernel
theorem dX1_wordTold_32 : decode cX1_wordTold 32 = .ok (.aload_n 0, 1) := by decide +kernel
theorem dX1_wordTold_33 : decode cX1_wordTold 33 = .ok (.getfield 26, 3) := by decide +kernel
theorem dX1_wordTold_36 : decode cX1_wordTold 36 = .ok (.iload_n 1, 1) := by decide +kernel
theorem dX1_wordTold_37 : decode cX1_wordTold 37 = .ok (.iaload, 1) := by decide +kernel
theorem dX1_wordTold_38 : decode cX1_wordTold 38 = .ok (.ireturn, 1) := by decide +kernel
theorem dX1_wordTold_39 : decode cX1_wordTold 39 = .ok (.aload_n 3, 1) := by decide +kernel
theorem dX1_wordTold_40 : decode cX1_wordTold 40 = .ok (.iconst 0, 1) := by decide +kernel
theorem dX1_wordTold_41 : decode cX1_wordTold 41 = .ok (.invokestatic 120, 3) := by decide +kernel
theorem dX1_wordTold_44 : decode cX1_wordTold 44 = .ok (.ireturn, 1) := by decide +kernel
theorem dX1_wordTold_45 : decode cX1_wordTold 45 = .ok (.bipush 8, 2) := by decide +kernel
theorem dX1_wordTold_47 : decode cX1_wordTold 47 = .ok (.aload_n 3, 1) := by decide +kernel
theorem dX1_wordTold_48 : decode cX1_wordTold 48 = .ok (.iload_n 2, 1) := by decide +kernel
theorem dX1_wordTold_49 : decode cX1_wordTold 49 = .ok (.iconst 1, 1) := by decide +kernel
theorem dX1_wordTold_50 : decode cX1_wordTold 50 = .ok (.isub, 1) := by decide +kernel
theorem dX1_wordTold_51 : decode cX1_wordTold 51 = .ok (.invokestatic 74, 3) := by decide +kernel
theorem dX1_wordTold_54 : decode cX1_wordTold 54 = .ok (.isub, 1) := by decide +kernel
theorem dX1_wordTold_55 : decode cX1_wordTold 55 = .ok (.ireturn, 1) := by decide +kernel
set_option maxRecDepth 20000 in
theorem ggX1_word_X1_isWord : GoodIn wsX1_word wsX1_isWord := goodIn_r _ [5, 6, 7, 4, 8] (by decide +kernel) (by decide +kernel)
set_option maxRecDepth 20000 in
theorem gX1_word_X1_isWord : GoodIn wsX1_word (va_wsS RX1 89 yX1_isWord wsX1_isWord) := goodIn_app (goodIn_of _ (by decide +kernel)) ggX1_word_X1_isWord
set_option maxRecDepth 20000 in
theorem ggX1_word_X1_isIn : GoodIn wsX1_word wsX1_isIn := goodIn_r _ [8] (by decide +kernel) (by decide +kernel)
set_option maxRecDepth 20000 in
theorem gX1_word_X1_isIn : GoodIn wsX1_word (va_wsS RX1 40 yX1_isIn wsX1_isIn) := goodIn_app (goodIn_of _ (by decide +kernel)) ggX1_word_X1_isIn
set_option maxRecDepth 20000 in
theorem ggX1_word_X1_wordTold : GoodIn wsX1_word wsX1_wordTold := goodIn_r _ [12, 13, 14, 15, 16, 4, 17, 18, 19, 20, 21, 22, 23, 24, 25, 26, 27, 28, 29, 30, 31, 32, 33, 34, 35, 36, 37, 38, 39, 40, 41, 42, 43, 44, 45, 46, 51, 52, 53, 54, 55, 56, 57] (by decide +kernel) (by decide +kernel)
set_option maxRecDepth 20000 in
theorem gX1_word_X1_wordTold : GoodIn wsX1_word (wsV RX1 131 RX1 yX1_wordTold wsX1_wordTold) := goodIn_app (goodIn_of _ (by decide +kernel)) ggX1_word_X1_wordTold
set_option maxRecDepth 20000 in
theorem ggX1_word_X1_no : GoodIn wsX1_word wsX1_no := goodIn_r _ [50, 1, 51, 52, 53, 54, 55, 56, 57] (by decide +kernel) (by decide +kernel)
set_option maxRecDepth 20000 in
theorem gX1_word_X1_no : GoodIn wsX1_word (wsV RX1 82 RX1 yX1_no wsX1_no) := goodIn_app (goodIn_of _ (by decide +kernel)) ggX1_word_X1_no
theorem dX1_word_0 : decode cX1_word 0 = .ok (.aload_n 0, 1) := by decide +kernel
theorem dX1_word_1 : decode cX1_word 1 = .ok (.iconst 0, 1) := by decide +kernel
theorem dX1_word_2 : decode cX1_word 2 = .ok (.putfield 36, 3) := by decide +kernel
theorem dX1_word_5 : decode cX1_word 5 = .ok (.iload_n 1, 1) := by decide +kernel
theorem dX1_word_6 : decode cX1_word 6 = .ok (.invokestatic 89, 3) := by decide +kernel
theorem dX1_word_9 : decode cX1_word 9 = .ok (.ifCond .eq 21, 3) := by decide +kernel
theorem dX1_word_12 : decode cX1_word 12 = .ok (.iload_n 2, 1) := by decide +kernel
theorem dX1_word_13 : decode cX1_word 13 = .ok (.iconst 0, 1) := by decide +kernel
theorem dX1_word_14 : decode cX1_word 14 = .ok (.iconst 3, 1) := by decide +kernel
theorem dX1_word_15 : decode cX1_word 15 = .ok (.invokestatic 40, 3) := by decide +kernel
theorem dX1_word_18 : decode cX1_word 18 = .ok (.ifCond .eq 12, 3) := by decide +kernel
theorem dX1_word_21 : decode cX1_word 21 = .ok (.aload_n 0, 1) := by decide +kernel
theorem dX1_word_22 : decode cX1_word 22 = .ok (.iload_n 1, 1) := by decide +kernel
theorem dX1_word_23 : decode cX1_word 23 = .ok (.iload_n 2, 1) := by decide +kernel
theorem dX1_word_24 : decode cX1_word 24 = .ok (.invokevirtual 131, 3) := by decide +kernel
theorem dX1_word_27 : decode cX1_word 27 = .ok (.goto 8, 3) := by decide +kernel
theorem dX1_word_30 : decode cX1_word 30 = .ok (.aload_n 0, 1) := by decide +kernel
theorem dX1_word_31 : decode cX1_word 31 = .ok (.iconst 1, 1) := by decide +kernel
theorem dX1_word_32 : decode cX1_word 32 = .ok (.invokevirtual 82, 3) := by decide +kernel
theorem dX1_word_35 : decode cX1_word 35 = .ok (.ireturn, 1) := by decide +kernel
set_option maxRecDepth 20000 in
theorem ggX1_at_X1_isWord : GoodIn wsX1_at wsX1_isWord := goodIn_r _ [7, 8, 9, 6, 10] (by decide +kernel) (by decide +kernel)
set_option maxRecDepth 20000 in
theorem gX1_at_X1_isWord : GoodIn wsX1_at (va_wsS RX1 89 yX1_isWord wsX1_isWord) := goodIn_app (goodIn_of _ (by decide +kernel)) ggX1_at_X1_isWord
set_option maxRecDepth 20000 in
theorem ggX1_at_X1_isIn : GoodIn wsX1_at wsX1_isIn := goodIn_r _ [10] (by decide +kernel) (by decide +kernel)
set_option maxRecDepth 20000 in
theorem gX1_at_X1_isIn : GoodIn wsX1_at (va_wsS RX1 40 yX1_isIn wsX1_isIn) := goodIn_app (goodIn_of _ (by decide +kernel)) ggX1_at_X1_isIn
set_option maxRecDepth 20000 in
theorem ggX1_at_X1_no : GoodIn wsX1_at wsX1_no := goodIn_r _ [14, 1, 15, 16, 17, 18, 19, 20, 21] (by decide +kernel) (by decide +kernel)
set_option maxRecDepth 20000 in
theorem gX1_at_X1_no : GoodIn wsX1_at (wsV RX1 82 RX1 yX1_no wsX1_no) := goodIn_app (goodIn_of _ (by decide +kernel)) ggX1_at_X1_no
theorem dX1_at_0 : decode cX1_at 0 = .ok (.aload_n 0, 1) := by decide +kernel
theorem dX1_at_1 : decode cX1_at 1 = .ok (.iconst 0, 1) := by decide +kernel
theorem dX1_at_2 : decode cX1_at 2 = .ok (.putfield 36, 3) := by decide +kernel
theorem dX1_at_5 : decode cX1_at 5 = .ok (.iload_n 1, 1) := by decide +kernel
theorem dX1_at_6 : decode cX1_at 6 = .ok (.invokestatic 89, 3) := by decide +kernel
theorem dX1_at_9 : decode cX1_at 9 = .ok (.ifCond .eq 33, 3) := by decide +kernel
theorem dX1_at_12 : decode cX1_at 12 = .ok (.iload_n 2, 1) := by decide +kernel
theorem dX1_at_13 : decode cX1_at 13 = .ok (.iconst 0, 1) := by decide +kernel
theorem dX1_at_14 : decode cX1_at 14 = .ok (.aload_n 0, 1) := by decide +kernel
theorem dX1_at_15 : decode cX1_at 15 = .ok (.getfield 26, 3) := by decide +kernel
theorem dX1_at_18 : decode cX1_at 18 = .ok (.iload_n 1, 1) := by decide +kernel
theorem dX1_at_19 : decode cX1_at 19 = .ok (.iaload, 1) := by decide +kernel
theorem dX1_at_20 : decode cX1_at 20 = .ok (.iconst 1, 1) := by decide +kernel
theorem dX1_at_21 : decode cX1_at 21 = .ok (.isub, 1) := by decide +kernel
theorem dX1_at_22 : decode cX1_at 22 = .ok (.invokestatic 40, 3) := by decide +kernel
theorem dX1_at_25 : decode cX1_at 25 = .ok (.ifCond .eq 17, 3) := by decide +kernel
theorem dX1_at_28 : decode cX1_at 28 = .ok (.aload_n 0, 1) := by decide +kernel
theorem dX1_at_29 : decode cX1_at 29 = .ok (.getfield 29, 3) := by decide +kernel
theorem dX1_at_32 : decode cX1_at 32 = .ok (.bipush 12, 2) := by decide +kernel
theorem dX1_at_34 : decode cX1_at 34 = .ok (.iload_n 1, 1) := by decide +kernel
theorem dX1_at_35 : decode cX1_at 35 = .ok (.imul, 1) := by decide +kernel
theorem dX1_at_36 : decode cX1_at 36 = .ok (.iload_n 2, 1) := by decide +kernel
theorem dX1_at_37 : decode cX1_at 37 = .ok (.iadd, 1) := by decide +kernel
theorem dX1_at_38 : decode cX1_at 38 = .ok (.iaload, 1) := by decide +kernel
theorem dX1_at_39 : decode cX1_at 39 = .ok (.goto 8, 3) := by decide +kernel
theorem dX1_at_42 : decode cX1_at 42 = .ok (.aload_n 0, 1) := by decide +kernel
theorem dX1_at_43 : decode cX1_at 43 = .ok (.iconst 1, 1) := by decide +kernel
theorem dX1_at_44 : decode cX1_at 44 = .ok (.invokevirtual 82, 3) := by decide +kernel
theorem dX1_at_47 : decode cX1_at 47 = .ok (.ireturn, 1) := by decide +kernel
set_option maxRecDepth 20000 in
theorem ggX1_same_X1_isWord : GoodIn wsX1_same wsX1_isWord := goodIn_r _ [5, 6, 7, 4, 8] (by decide +kernel) (by decide +kernel)
set_option maxRecDepth 20000 in
theorem gX1_same_X1_isWord : GoodIn wsX1_same (va_wsS RX1 89 yX1_isWord wsX1_isWord) := goodIn_app (goodIn_of _ (by decide +kernel)) ggX1_same_X1_isWord
set_option maxRecDepth 20000 in
theorem ggX1_same_X1_no : GoodIn wsX1_same wsX1_no := goodIn_r _ [12, 1, 40, 41, 42, 43, 44, 45, 46] (by decide +kernel) (by decide +kernel)
set_option maxRecDepth 20000 in
theorem gX1_same_X1_no : GoodIn wsX1_same (wsV RX1 82 RX1 yX1_no wsX1_no) := goodIn_app (goodIn_of _ (by decide +kernel)) ggX1_same_X1_no
set_option maxRecDepth 20000 in
theorem ggX1_same_X1_rowOf : GoodIn wsX1_same wsX1_rowOf := goodIn_r _ [16, 17, 18, 19, 20, 4, 21, 22, 23, 24, 25, 26, 27, 28, 29, 30, 31, 32, 33, 40, 41, 42, 43, 44, 45, 46] (by decide +kernel) (by decide +kernel)
set_option maxRecDepth 20000 in
theorem gX1_same_X1_rowOf : GoodIn wsX1_same (wsV RX1 93 RX1 yX1_rowOf wsX1_rowOf) := goodIn_app (goodIn_of _ (by decide +kernel)) ggX1_same_X1_rowOf
set_option maxRecDepth 20000 in
theorem ggX1_same_X1_back : GoodIn wsX1_same wsX1_back := goodIn_r _ [36, 22] (by decide +kernel) (by decide +kernel)
set_option maxRecDepth 20000 in
theorem gX1_same_X1_back : GoodIn wsX1_same (va_wsS RX1 116 yX1_back wsX1_back) := goodIn_app (goodIn_of _ (by decide +kernel)) ggX1_same_X1_back
set_option maxRecDepth 20000 in
theorem ggX1_same_X1_then : GoodIn wsX1_same wsX1_then := goodIn_r _ [30, 22, 31, 32, 4, 33] (by decide +kernel) (by decide +kernel)
set_option maxRecDepth 20000 in
theorem gX1_same_X1_then : GoodIn wsX1_same (va_wsS RX1 57 yX1_then wsX1_then) := goodIn_app (goodIn_of _ (by decide +kernel)) ggX1_same_X1_then
set_option maxRecDepth 20000 in
theorem ggX1_same_X1_many : GoodIn wsX1_same wsX1_many := goodIn_r _ [39] (by decide +kernel) (by decide +kernel)
set_option maxRecDepth 20000 in
theorem gX1_same_X1_many : GoodIn wsX1_same (va_wsS RX1 74 yX1_many wsX1_many) := goodIn_app (goodIn_of _ (by decide +kernel)) ggX1_same_X1_many
theorem dX1_same_0 : decode cX1_same 0 = .ok (.aload_n 0, 1) := by decide +kernel
theorem dX1_same_1 : decode cX1_same 1 = .ok (.iconst 0, 1) := by decide +kernel
theorem dX1_same_2 : decode cX1_same 2 = .ok (.putfield 36, 3) := by decide +kernel
theorem dX1_same_5 : decode cX1_same 5 = .ok (.iload_n 1, 1) := by decide +kernel
theorem dX1_same_6 : decode cX1_same 6 = .ok (.invokestatic 89, 3) := by decide +kernel
theorem dX1_same_9 : decode cX1_same 9 = .ok (.ifCond .eq 10, 3) := by decide +kernel
theorem dX1_same_12 : decode cX1_same 12 = .ok (.iload_n 2, 1) := by decide +kernel
theorem dX1_same_13 : decode cX1_same 13 = .ok (.invokestatic 89, 3) := by decide +kernel
theorem dX1_same_16 : decode cX1_same 16 = .ok (.ifCond .ne 17, 3) := by decide +kernel
theorem dX1_same_19 : decode cX1_same 19 = .ok (.aload_n 0, 1) := by decide +kernel
theorem dX1_same_20 : decode cX1_same 20 = .ok (.iconst 1, 1) := by decide +kernel
theorem dX1_same_21 : decode cX1_same 21 = .ok (.invokevirtual 82, 3) := by decide +kernel
theorem dX1_same_24 : decode cX1_same 24 = .ok (.ifCond .le 7, 3) := by decide +kernel
theorem dX1_same_27 : decode cX1_same 27 = .ok (.iconst 1, 1) := by decide +kernel
theorem dX1_same_28 : decode cX1_same 28 = .ok (.goto 4, 3) := by decide +kernel
theorem dX1_same_31 : decode cX1_same 31 = .ok (.iconst 0, 1) := by decide +kernel
theorem dX1_same_32 : decode cX1_same 32 = .ok (.ireturn, 1) := by decide +kernel
theorem dX1_same_33 : decode cX1_same 33 = .ok (.aload_n 0, 1) := by decide +kernel
theorem dX1_same_34 : decode cX1_same 34 = .ok (.iload_n 1, 1) := by decide +kernel
theorem dX1_same_35 : decode cX1_same 35 = .ok (.invokevirtual 93, 3) := by decide +kernel
theorem dX1_same_38 : decode cX1_same 38 = .ok (.aload_n 0, 1) := by decide +kernel
theorem dX1_same_39 : decode cX1_same 39 = .ok (.iload_n 2, 1) := by decide +kernel
theorem dX1_same_40 : decode cX1_same 40 = .ok (.invokevirtual 93, 3) := by decide +kernel
theorem dX1_same_43 : decode cX1_same 43 = .ok (.invokestatic 116, 3) := by decide +kernel
theorem dX1_same_46 : decode cX1_same 46 = .ok (.invokestatic 57, 3) := by decide +kernel
theorem dX1_same_49 : decode cX1_same 49 = .ok (.iconst 1, 1) := by decide +kernel
theorem dX1_same_50 : decode cX1_same 50 = .ok (.invokestatic 74, 3) := by decide +kernel
theorem dX1_same_53 : decode cX1_same 53 = .ok (.bipush 8, 2) := by decide +kernel
theorem dX1_same_55 : decode cX1_same 55 = .ok (.if_icmp .ne 7, 3) := by decide +kernel
theorem dX1_same_58 : decode cX1_same 58 = .ok (.iconst 1, 1) := by decide +kernel
theorem dX1_same_59 : decode cX1_same 59 = .ok (.goto 4, 3) := by decide +kernel
theorem dX1_same_62 : decode cX1_same 62 = .ok (.iconst 0, 1) := by decide +kernel
theorem dX1_same_63 : decode cX1_same 63 = .ok (.ireturn, 1) := by decide +kernel
set_option maxRecDepth 20000 in
theorem ggX1_mixed_X1_isWord : GoodIn wsX1_mixed wsX1_isWord := goodIn_r _ [5, 6, 7, 4, 8] (by decide +kernel) (by decide +kernel)
set_option maxRecDepth 20000 in
theorem gX1_mixed_X1_isWord : GoodIn wsX1_mixed (va_wsS RX1 89 yX1_isWord wsX1_isWord) := goodIn_app (goodIn_of _ (by decide +kernel)) ggX1_mixed_X1_isWord
set_option maxRecDepth 20000 in
theorem ggX1_mixed_X1_no : GoodIn wsX1_mixed wsX1_no := goodIn_r _ [12, 1, 40, 41, 42, 43, 44, 45, 46] (by decide +kernel) (by decide +kernel)
set_option maxRecDepth 20000 in
theorem gX1_mixed_X1_no : GoodIn wsX1_mixed (wsV RX1 82 RX1 yX1_no wsX1_no) := goodIn_app (goodIn_of _ (by decide +kernel)) ggX1_mixed_X1_no
set_option maxRecDepth 20000 in
theorem ggX1_mixed_X1_rowOf : GoodIn wsX1_mixed wsX1_rowOf := goodIn_r _ [16, 17, 18, 19, 20, 4, 21, 22, 23, 24, 25, 26, 27, 28, 29, 30, 31, 32, 33, 40, 41, 42, 43, 44, 45, 46] (by decide +kernel) (by decide +kernel)
set_option maxRecDepth 20000 in
theorem gX1_mixed_X1_rowOf : GoodIn wsX1_mixed (wsV RX1 93 RX1 yX1_rowOf wsX1_rowOf) := goodIn_app (goodIn_of _ (by decide +kernel)) ggX1_mixed_X1_rowOf
set_option maxRecDepth 20000 in
theorem ggX1_mixed_X1_then : GoodIn wsX1_mixed wsX1_then := goodIn_r _ [30, 22, 31, 32, 4, 33] (by decide +kernel) (by decide +kernel)
set_option maxRecDepth 20000 in
theorem gX1_mixed_X1_then : GoodIn wsX1_mixed (va_wsS RX1 57 yX1_then wsX1_then) := goodIn_app (goodIn_of _ (by decide +kernel)) ggX1_mixed_X1_then
set_option maxRecDepth 20000 in
theorem ggX1_mixed_X1_back : GoodIn wsX1_mixed wsX1_back := goodIn_r _ [36, 22] (by decide +kernel) (by decide +kernel)
set_option maxRecDepth 20000 in
theorem gX1_mixed_X1_back : GoodIn wsX1_mixed (va_wsS RX1 116 yX1_back wsX1_back) := goodIn_app (goodIn_of _ (by decide +kernel)) ggX1_mixed_X1_back
set_option maxRecDepth 20000 in
theorem ggX1_mixed_X1_many : GoodIn wsX1_mixed wsX1_many := goodIn_r _ [39] (by decide +kernel) (by decide +kernel)
set_option maxRecDepth 20000 in
theorem gX1_mixed_X1_many : GoodIn wsX1_mixed (va_wsS RX1 74 yX1_many wsX1_many) := goodIn_app (goodIn_of _ (by decide +kernel)) ggX1_mixed_X1_many
theorem dX1_mixed_0 : decode cX1_mixed 0 = .ok (.aload_n 0, 1) := by decide +kernel
theorem dX1_mixed_1 : decode cX1_mixed 1 = .ok (.iconst 0, 1) := by decide +kernel
theorem dX1_mixed_2 : decode cX1_mixed 2 = .ok (.putfield 36, 3) := by decide +kernel
theorem dX1_mixed_5 : decode cX1_mixed 5 = .ok (.iload_n 1, 1) := by decide +kernel
theorem dX1_mixed_6 : decode cX1_mixed 6 = .ok (.invokestatic 89, 3) := by decide +kernel
theorem dX1_mixed_9 : decode cX1_mixed 9 = .ok (.ifCond .eq 10, 3) := by decide +kernel
theorem dX1_mixed_12 : decode cX1_mixed 12 = .ok (.iload_n 2, 1) := by decide +kernel
theorem dX1_mixed_13 : decode cX1_mixed 13 = .ok (.invokestatic 89, 3) := by decide +kernel
theorem dX1_mixed_16 : decode cX1_mixed 16 = .ok (.ifCond .ne 9, 3) := by decide +kernel
theorem dX1_mixed_19 : decode cX1_mixed 19 = .ok (.aload_n 0, 1) := by decide +kernel
theorem dX1_mixed_20 : decode cX1_mixed 20 = .ok (.iconst 1, 1) := by decide +kernel
theorem dX1_mixed_21 : decode cX1_mixed 21 = .ok (.invokevirtual 82, 3) := by decide +kernel
theorem dX1_mixed_24 : decode cX1_mixed 24 = .ok (.ireturn, 1) := by decide +kernel
theorem dX1_mixed_25 : decode cX1_mixed 25 = .ok (.aload_n 0, 1) := by decide +kernel
theorem dX1_mixed_26 : decode cX1_mixed 26 = .ok (.iload_n 1, 1) := by decide +kernel
theorem dX1_mixed_27 : decode cX1_mixed 27 = .ok (.invokevirtual 93, 3) := by decide +kernel
theorem dX1_mixed_30 : decode cX1_mixed 30 = .ok (.astore_n 3, 1) := by decide +kernel
theorem dX1_mixed_31 : decode cX1_mixed 31 = .ok (.aload_n 0, 1) := by decide +kernel
theorem dX1_mixed_32 : decode cX1_mixed 32 = .ok (.iload_n 2, 1) := by decide +kernel
theorem dX1_mixed_33 : decode cX1_mixed 33 = .ok (.invokevirtual 93, 3) := by decide +kernel
theorem dX1_mixed_36 : decode cX1_mixed 36 = .ok (.astore 4, 2) := by decide +kernel
theorem dX1_mixed_38 : decode cX1_mixed 38 = .ok (.bipush 8, 2) := by decide +kernel
theorem dX1_mixed_40 : decode cX1_mixed 40 = .ok (.aload_n 3, 1) := by decide +kernel
theorem dX1_mixed_41 : decode cX1_mixed 41 = .ok (.aload 4, 2) := by decide +kernel
theorem dX1_mixed_43 : decode cX1_mixed 43 = .ok (.invokestatic 57, 3) := by decide +kernel
theorem dX1_mixed_46 : decode cX1_mixed 46 = .ok (.aload_n 3, 1) := by decide +kernel
theorem dX1_mixed_47 : decode cX1_mixed 47 = .ok (.invokestatic 116, 3) := by decide +kernel
theorem dX1_mixed_50 : decode cX1_mixed 50 = .ok (.aload 4, 2) := by decide +kernel
theorem dX1_mixed_52 : decode cX1_mixed 52 = .ok (.invokestatic 116, 3) := by decide +kernel
theorem dX1_mixed_55 : decode cX1_mixed 55 = .ok (.invokestatic 57, 3) := by decide +kernel
theorem dX1_mixed_58 : decode cX1_mixed 58 = .ok (.invokestatic 57, 3) := by decide +kernel
theorem dX1_mixed_61 : decode cX1_mixed 61 = .ok (.iconst 1, 1) := by decide +kernel
theorem dX1_mixed_62 : decode cX1_mixed 62 = .ok (.invokestatic 74, 3) := by decide +kernel
theorem dX1_mixed_65 : decode cX1_mixed 65 = .ok (.isub, 1) := by decide +kernel
theorem dX1_mixed_66 : decode cX1_mixed 66 = .ok (.ireturn, 1) := by decide +kernel
set_option maxRecDepth 20000 in
theorem ggX1_would_X1_isIn : GoodIn wsX1_would wsX1_isIn := goodIn_r _ [6] (by decide +kernel) (by decide +kernel)
set_option maxRecDepth 20000 in
theorem gX1_would_X1_isIn : GoodIn wsX1_would (va_wsS RX1 40 yX1_isIn wsX1_isIn) := goodIn_app (goodIn_of _ (by decide +kernel)) ggX1_would_X1_isIn
set_option maxRecDepth 20000 in
theorem ggX1_would_X1_no : GoodIn wsX1_would wsX1_no := goodIn_r _ [10, 1, 26, 27, 28, 29, 30, 31, 32] (by decide +kernel) (by decide +kernel)
set_option maxRecDepth 20000 in
theorem gX1_would_X1_no : GoodIn wsX1_would (wsV RX1 82 RX1 yX1_no wsX1_no) := goodIn_app (goodIn_of _ (by decide +kernel)) ggX1_would_X1_no
set_option maxRecDepth 20000 in
theorem ggX1_would_X1_turned : GoodIn wsX1_would wsX1_turned := goodIn_r _ [14, 15, 16, 17, 5, 18, 19, 20, 21, 22, 26, 27, 28, 29, 30, 31, 32] (by decide +kernel) (by decide +kernel)
set_option maxRecDepth 20000 in
theorem gX1_would_X1_turned : GoodIn wsX1_would (wsV RX1 61 RX1 yX1_turned wsX1_turned) := goodIn_app (goodIn_of _ (by decide +kernel)) ggX1_would_X1_turned
set_option maxRecDepth 20000 in
theorem ggX1_would_X1_many : GoodIn wsX1_would wsX1_many := goodIn_r _ [25] (by decide +kernel) (by decide +kernel)
set_option maxRecDepth 20000 in
theorem gX1_would_X1_many : GoodIn wsX1_would (va_wsS RX1 74 yX1_many wsX1_many) := goodIn_app (goodIn_of _ (by decide +kernel)) ggX1_would_X1_many
theorem dX1_would_0 : decode cX1_would 0 = .ok (.aload_n 0, 1) := by decide +kernel
theorem dX1_would_1 : decode cX1_would 1 = .ok (.iconst 0, 1) := by decide +kernel
theorem dX1_would_2 : decode cX1_would 2 = .ok (.putfield 36, 3) := by decide +kernel
theorem dX1_would_5 : decode cX1_would 5 = .ok (.iload_n 1, 1) := by decide +kernel
theorem dX1_would_6 : decode cX1_would 6 = .ok (.iconst 0, 1) := by decide +kernel
theorem dX1_would_7 : decode cX1_would 7 = .ok (.iconst 2, 1) := by decide +kernel
theorem dX1_would_8 : decode cX1_would 8 = .ok (.invokestatic 40, 3) := by decide +kernel
theorem dX1_would_11 : decode cX1_would 11 = .ok (.ifCond .ne 9, 3) := by decide +kernel
theorem dX1_would_14 : decode cX1_would 14 = .ok (.aload_n 0, 1) := by decide +kernel
theorem dX1_would_15 : decode cX1_would 15 = .ok (.iconst 1, 1) := by decide +kernel
theorem dX1_would_16 : decode cX1_would 16 = .ok (.invokevirtual 82, 3) := by decide +kernel
theorem dX1_would_19 : decode cX1_would 19 = .ok (.ireturn, 1) := by decide +kernel
theorem dX1_would_20 : decode cX1_would 20 = .ok (.iload_n 2, 1) := by decide +kernel
theorem dX1_would_21 : decode cX1_would 21 = .ok (.iconst 1, 1) := by decide +kernel
theorem dX1_would_22 : decode cX1_would 22 = .ok (.iconst 3, 1) := by decide +kernel
theorem dX1_would_23 : decode cX1_would 23 = .ok (.invokestatic 40, 3) := by decide +kernel
theorem dX1_would_26 : decode cX1_would 26 = .ok (.ifCond .eq 25, 3) := by decide +kernel
theorem dX1_would_29 : decode cX1_would 29 = .ok (.aload_n 0, 1) := by decide +kernel
theorem dX1_would_30 : decode cX1_would 30 = .ok (.aload_n 0, 1) := by decide +kernel
theorem dX1_would_31 : decode cX1_would 31 = .ok (.getfield 13, 3) := by decide +kernel
theorem dX1_would_34 : decode cX1_would 34 = .ok (.iconst 3, 1) := by decide +kernel
theorem dX1_would_35 : decode cX1_would 35 = .ok (.iload_n 1, 1) := by decide +kernel
theorem dX1_would_36 : decode cX1_would 36 = .ok (.imul, 1) := by decide +kernel
theorem dX1_would_37 : decode cX1_would 37 = .ok (.iload_n 2, 1) := by decide +kernel
theorem dX1_would_38 : decode cX1_would 38 = .ok (.iadd, 1) := by decide +kernel
theorem dX1_would_39 : decode cX1_would 39 = .ok (.iconst 1, 1) := by decide +kernel
theorem dX1_would_40 : decode cX1_would 40 = .ok (.isub, 1) := by decide +kernel
theorem dX1_would_41 : decode cX1_would 41 = .ok (.invokevirtual 61, 3) := by decide +kernel
theorem dX1_would_44 : decode cX1_would 44 = .ok (.iconst 1, 1) := by decide +kernel
theorem dX1_would_45 : decode cX1_would 45 = .ok (.invokestatic 74, 3) := by decide +kernel
theorem dX1_would_48 : decode cX1_would 48 = .ok (.goto 8, 3) := by decide +kernel
theorem dX1_would_51 : decode cX1_would 51 = .ok (.aload_n 0, 1) := by decide +kernel
theorem dX1_would_52 : decode cX1_would 52 = .ok (.iconst 2, 1) := by decide +kernel
theorem dX1_would_53 : decode cX1_would 53 = .ok (.invokevirtual 82, 3) := by decide +kernel
theorem dX1_would_56 : decode cX1_would 56 = .ok (.ireturn, 1) := by decide +kernel
set_option maxRecDepth 20000 in
theorem ggX1_far_X1_isIn : GoodIn wsX1_far wsX1_isIn := goodIn_r _ [6] (by decide +kernel) (by decide +kernel)
set_option maxRecDepth 20000 in
theorem gX1_far_X1_isIn : GoodIn wsX1_far (va_wsS RX1 40 yX1_isIn wsX1_isIn) := goodIn_app (goodIn_of _ (by decide +kernel)) ggX1_far_X1_isIn
set_option maxRecDepth 20000 in
theorem ggX1_far_X1_farOf : GoodIn wsX1_far wsX1_farOf := goodIn_r _ [10, 11, 12, 13, 5, 14, 15, 16, 17, 18, 19, 20, 21, 22, 27, 28, 29, 30, 31, 32, 33] (by decide +kernel) (by decide +kernel)
set_option maxRecDepth 20000 in
theorem gX1_far_X1_farOf : GoodIn wsX1_far (wsV RX1 134 RX1 yX1_farOf wsX1_farOf) := goodIn_app (goodIn_of _ (by decide +kernel)) ggX1_far_X1_farOf
set_option maxRecDepth 20000 in
theorem ggX1_far_X1_no : GoodIn wsX1_far wsX1_no := goodIn_r _ [26, 1, 27, 28, 29, 30, 31, 32, 33] (by decide +kernel) (by decide +kernel)
set_option maxRecDepth 20000 in
theorem gX1_far_X1_no : GoodIn wsX1_far (wsV RX1 82 RX1 yX1_no wsX1_no) := goodIn_app (goodIn_of _ (by decide +kernel)) ggX1_far_X1_no
theorem dX1_far_0 : decode cX1_far 0 = .ok (.aload_n 0, 1) := by decide +kernel
theorem dX1_far_1 : decode cX1_far 1 = .ok (.iconst 0, 1) := by decide +kernel
theorem dX1_far_2 : decode cX1_far 2 = .ok (.putfield 36, 3) := by decide +kernel
theorem dX1_far_5 : decode cX1_far 5 = .ok (.iload_n 1, 1) := by decide +kernel
theorem dX1_far_6 : decode cX1_far 6 = .ok (.iconst 0, 1) := by decide +kernel
theorem dX1_far_7 : decode cX1_far 7 = .ok (.iconst 5, 1) := by decide +kernel
theorem dX1_far_8 : decode cX1_far 8 = .ok (.invokestatic 40, 3) := by decide +kernel
theorem dX1_far_11 : decode cX1_far 11 = .ok (.ifCond .eq 15, 3) := by decide +kernel
theorem dX1_far_14 : decode cX1_far 14 = .ok (.aload_n 0, 1) := by decide +kernel
theorem dX1_far_15 : decode cX1_far 15 = .ok (.aload_n 0, 1) := by decide +kernel
theorem dX1_far_16 : decode cX1_far 16 = .ok (.getfield 13, 3) := by decide +kernel
theorem dX1_far_19 : decode cX1_far 19 = .ok (.iload_n 1, 1) := by decide +kernel
theorem dX1_far_20 : decode cX1_far 20 = .ok (.invokevirtual 134, 3) := by decide +kernel
theorem dX1_far_23 : decode cX1_far 23 = .ok (.goto 8, 3) := by decide +kernel
theorem dX1_far_26 : decode cX1_far 26 = .ok (.aload_n 0, 1) := by decide +kernel
theorem dX1_far_27 : decode cX1_far 27 = .ok (.iconst 1, 1) := by decide +kernel
theorem dX1_far_28 : decode cX1_far 28 = .ok (.invokevirtual 82, 3) := by decide +kernel
theorem dX1_far_31 : decode cX1_far 31 = .ok (.ireturn, 1) := by decide +kernel
set_option maxRecDepth 20000 in
theorem ggX1_first_X1_isIn : GoodIn wsX1_first wsX1_isIn := goodIn_r _ [6] (by decide +kernel) (by decide +kernel)
set_option maxRecDepth 20000 in
theorem gX1_first_X1_isIn : GoodIn wsX1_first (va_wsS RX1 40 yX1_isIn wsX1_isIn) := goodIn_app (goodIn_of _ (by decide +kernel)) ggX1_first_X1_isIn
set_option maxRecDepth 20000 in
theorem ggX1_first_X1_no : GoodIn wsX1_first wsX1_no := goodIn_r _ [10, 1, 35, 36, 37, 38, 39, 40, 41] (by decide +kernel) (by decide +kernel)
set_option maxRecDepth 20000 in
theorem gX1_first_X1_no : GoodIn wsX1_first (wsV RX1 82 RX1 yX1_no wsX1_no) := goodIn_app (goodIn_of _ (by decide +kernel)) ggX1_first_X1_no
set_option maxRecDepth 20000 in
theorem ggX1_first_X1_farOf : GoodIn wsX1_first wsX1_farOf := goodIn_r _ [14, 15, 16, 17, 5, 18, 19, 20, 21, 22, 23, 24, 25, 26, 35, 36, 37, 38, 39, 40, 41] (by decide +kernel) (by decide +kernel)
set_option maxRecDepth 20000 in
theorem gX1_first_X1_farOf : GoodIn wsX1_first (wsV RX1 134 RX1 yX1_farOf wsX1_farOf) := goodIn_app (goodIn_of _ (by decide +kernel)) ggX1_first_X1_farOf
set_option maxRecDepth 20000 in
theorem ggX1_first_X1_turned : GoodIn wsX1_first wsX1_turned := goodIn_r _ [30, 19, 31, 32, 5, 33, 34, 24, 25, 26, 35, 36, 37, 38, 39, 40, 41] (by decide +kernel) (by decide +kernel)
set_option maxRecDepth 20000 in
theorem gX1_first_X1_turned : GoodIn wsX1_first (wsV RX1 61 RX1 yX1_turned wsX1_turned) := goodIn_app (goodIn_of _ (by decide +kernel)) ggX1_first_X1_turned
set_option maxRecDepth 20000 in
theorem ggX1_first_X1_comes : GoodIn wsX1_first wsX1_comes := goodIn_r _ [18, 19, 20, 21, 22, 5, 23, 24, 25, 26, 15, 16, 17, 35, 36, 37, 38, 39, 40, 41] (by decide +kernel) (by decide +kernel)
set_option maxRecDepth 20000 in
theorem gX1_first_X1_comes : GoodIn wsX1_first (wsV RX1 78 RX1 yX1_comes wsX1_comes) := goodIn_app (goodIn_of _ (by decide +kernel)) ggX1_first_X1_comes
theorem dX1_first_0 : decode cX1_first 0 = .ok (.aload_n 0, 1) := by decide +kernel
theorem dX1_first_1 : decode cX1_first 1 = .ok (.iconst 0, 1) := by decide +kernel
theorem dX1_first_2 : decode cX1_first 2 = .ok (.putfield 36, 3) := by decide +kernel
theorem dX1_first_5 : decode cX1_first 5 = .ok (.iload_n 1, 1) := by decide +kernel
theorem dX1_first_6 : decode cX1_first 6 = .ok (.iconst 0, 1) := by decide +kernel
theorem dX1_first_7 : decode cX1_first 7 = .ok (.iconst 5, 1) := by decide +kernel
theorem dX1_first_8 : decode cX1_first 8 = .ok (.invokestatic 40, 3) := by decide +kernel
theorem dX1_first_11 : decode cX1_first 11 = .ok (.ifCond .ne 9, 3) := by decide +kernel
theorem dX1_first_14 : decode cX1_first 14 = .ok (.aload_n 0, 1) := by decide +kernel
theorem dX1_first_15 : decode cX1_first 15 = .ok (.iconst 1, 1) := by decide +kernel
theorem dX1_first_16 : decode cX1_first 16 = .ok (.invokevirtual 82, 3) := by decide +kernel
theorem dX1_first_19 : decode cX1_first 19 = .ok (.ireturn, 1) := by decide +kernel
theorem dX1_first_20 : decode cX1_first 20 = .ok (.aload_n 0, 1) := by decide +kernel
theorem dX1_first_21 : decode cX1_first 21 = .ok (.aload_n 0, 1) := by decide +kernel
theorem dX1_first_22 : decode cX1_first 22 = .ok (.getfield 13, 3) := by decide +kernel
theorem dX1_first_25 : decode cX1_first 25 = .ok (.iload_n 1, 1) := by decide +kernel
theorem dX1_first_26 : decode cX1_first 26 = .ok (.invokevirtual 134, 3) := by decide +kernel
theorem dX1_first_29 : decode cX1_first 29 = .ok (.istore_n 2, 1) := by decide +kernel
theorem dX1_first_30 : decode cX1_first 30 = .ok (.iconst 0, 1) := by decide +kernel
theorem dX1_first_31 : decode cX1_first 31 = .ok (.istore_n 3, 1) := by decide +kernel
theorem dX1_first_32 : decode cX1_first 32 = .ok (.iload_n 3, 1) := by decide +kernel
theorem dX1_first_33 : decode cX1_first 33 = .ok (.bipush 9, 2) := by decide +kernel
theorem dX1_first_35 : decode cX1_first 35 = .ok (.if_icmp .ge 37, 3) := by decide +kernel
theorem dX1_first_38 : decode cX1_first 38 = .ok (.iload_n 2, 1) := by decide +kernel
theorem dX1_first_39 : decode cX1_first 39 = .ok (.ifCond .le 33, 3) := by decide +kernel
theorem dX1_first_42 : decode cX1_first 42 = .ok (.aload_n 0, 1) := by decide +kernel
theorem dX1_first_43 : decode cX1_first 43 = .ok (.aload_n 0, 1) := by decide +kernel
theorem dX1_first_44 : decode cX1_first 44 = .ok (.aload_n 0, 1) := by decide +kernel
theorem dX1_first_45 : decode cX1_first 45 = .ok (.getfield 13, 3) := by decide +kernel
theorem dX1_first_48 : decode cX1_first 48 = .ok (.iload_n 3, 1) := by decide +kernel
theorem dX1_first_49 : decode cX1_first 49 = .ok (.invokevirtual 61, 3) := by decide +kernel
theorem dX1_first_52 : decode cX1_first 52 = .ok (.iload_n 2, 1) := by decide +kernel
theorem dX1_first_53 : decode cX1_first 53 = .ok (.iconst 1, 1) := by decide +kernel
theorem dX1_first_54 : decode cX1_first 54 = .ok (.isub, 1) := by decide +kernel
theorem dX1_first_55 : decode cX1_first 55 = .ok (.iload_n 3, 1) := by decide +kernel
theorem dX1_first_56 : decode cX1_first 56 = .ok (.iconst 3, 1) := by decide +kernel
theorem dX1_first_57 : decode cX1_first 57 = .ok (.idiv, 1) := by decide +kernel
theorem dX1_first_58 : decode cX1_first 58 = .ok (.invokevirtual 78, 3) := by decide +kernel
theorem dX1_first_61 : decode cX1_first 61 = .ok (.ifCond .eq 5, 3) := by decide +kernel
theorem dX1_first_64 : decode cX1_first 64 = .ok (.iload_n 3, 1) := by decide +kernel
theorem dX1_first_65 : decode cX1_first 65 = .ok (.ireturn, 1) := by decide +kernel
theorem dX1_first_66 : decode cX1_first 66 = .ok (.iinc 3 1, 3) := by decide +kernel
theorem dX1_first_69 : decode cX1_first 69 = .ok (.goto (-37), 3) := by decide +kernel
theorem dX1_first_72 : decode cX1_first 72 = .ok (.iconst (-1), 1) := by decide +kernel
theorem dX1_first_73 : decode cX1_first 73 = .ok (.ireturn, 1) := by decide +kernel
set_option maxRecDepth 20000 in
theorem ggX1_shortest_X1_isWord : GoodIn wsX1_shortest wsX1_isWord := goodIn_r _ [5, 6, 7, 4, 8] (by decide +kernel) (by decide +kernel)
set_option maxRecDepth 20000 in
theorem gX1_shortest_X1_isWord : GoodIn wsX1_shortest (va_wsS RX1 89 yX1_isWord wsX1_isWord) := goodIn_app (goodIn_of _ (by decide +kernel)) ggX1_shortest_X1_isWord
set_option maxRecDepth 20000 in
theorem ggX1_shortest_X1_no : GoodIn wsX1_shortest wsX1_no := goodIn_r _ [12, 1, 46, 47, 48, 49, 50, 51, 52] (by decide +kernel) (by decide +kernel)
set_option maxRecDepth 20000 in
theorem gX1_shortest_X1_no : GoodIn wsX1_shortest (wsV RX1 82 RX1 yX1_no wsX1_no) := goodIn_app (goodIn_of _ (by decide +kernel)) ggX1_shortest_X1_no
set_option maxRecDepth 20000 in
theorem ggX1_shortest_X1_isIn : GoodIn wsX1_shortest wsX1_isIn := goodIn_r _ [8] (by decide +kernel) (by decide +kernel)
set_option maxRecDepth 20000 in
theorem gX1_shortest_X1_isIn : GoodIn wsX1_shortest (va_wsS RX1 40 yX1_isIn wsX1_isIn) := goodIn_app (goodIn_of _ (by decide +kernel)) ggX1_shortest_X1_isIn
set_option maxRecDepth 20000 in
theorem ggX1_shortest_X1_rowOf : GoodIn wsX1_shortest wsX1_rowOf := goodIn_r _ [16, 17, 18, 19, 20, 4, 21, 22, 23, 24, 25, 26, 27, 28, 29, 30, 31, 32, 33, 46, 47, 48, 49, 50, 51, 52] (by decide +kernel) (by decide +kernel)
set_option maxRecDepth 20000 in
theorem gX1_shortest_X1_rowOf : GoodIn wsX1_shortest (wsV RX1 93 RX1 yX1_rowOf wsX1_rowOf) := goodIn_app (goodIn_of _ (by decide +kernel)) ggX1_shortest_X1_rowOf
set_option maxRecDepth 20000 in
theorem ggX1_shortest_X1_farOf : GoodIn wsX1_shortest wsX1_farOf := goodIn_r _ [37, 38, 39, 40, 4, 41, 27, 42, 43, 44, 45, 31, 32, 33, 46, 47, 48, 49, 50, 51, 52] (by decide +kernel) (by decide +kernel)
set_option maxRecDepth 20000 in
theorem gX1_shortest_X1_farOf : GoodIn wsX1_shortest (wsV RX1 134 RX1 yX1_farOf wsX1_farOf) := goodIn_app (goodIn_of _ (by decide +kernel)) ggX1_shortest_X1_farOf
theorem dX1_shortest_0 : decode cX1_shortest 0 = .ok (.aload_n 0, 1) := by decide +kernel
theorem dX1_shortest_1 : decode cX1_shortest 1 = .ok (.iconst 0, 1) := by decide +kernel
theorem dX1_shortest_2 : decode cX1_shortest 2 = .ok (.putfield 36, 3) := by decide +kernel
theorem dX1_shortest_5 : decode cX1_shortest 5 = .ok (.iload_n 1, 1) := by decide +kernel
theorem dX1_shortest_6 : decode cX1_shortest 6 = .ok (.invokestatic 89, 3) := by decide +kernel
theorem dX1_shortest_9 : decode cX1_shortest 9 = .ok (.ifCond .ne 9, 3) := by decide +kernel
theorem dX1_shortest_12 : decode cX1_shortest 12 = .ok (.aload_n 0, 1) := by decide +kernel
theorem dX1_shortest_13 : decode cX1_shortest 13 = .ok (.iconst 1, 1) := by decide +kernel
theorem dX1_shortest_14 : decode cX1_shortest 14 = .ok (.invokevirtual 82, 3) := by decide +kernel
theorem dX1_shortest_17 : decode cX1_shortest 17 = .ok (.ireturn, 1) := by decide +kernel
theorem dX1_shortest_18 : decode cX1_shortest 18 = .ok (.iload_n 2, 1) := by decide +kernel
theorem dX1_shortest_19 : decode cX1_shortest 19 = .ok (.iconst 0, 1) := by decide +kernel
theorem dX1_shortest_20 : decode cX1_shortest 20 = .ok (.iconst 5, 1) := by decide +kernel
theorem dX1_shortest_21 : decode cX1_shortest 21 = .ok (.invokestatic 40, 3) := by decide +kernel
theorem dX1_shortest_24 : decode cX1_shortest 24 = .ok (.ifCond .eq 16, 3) := by decide +kernel
theorem dX1_shortest_27 : decode cX1_shortest 27 = .ok (.aload_n 0, 1) := by decide +kernel
theorem dX1_shortest_28 : decode cX1_shortest 28 = .ok (.aload_n 0, 1) := by decide +kernel
theorem dX1_shortest_29 : decode cX1_shortest 29 = .ok (.iload_n 1, 1) := by decide +kernel
theorem dX1_shortest_30 : decode cX1_shortest 30 = .ok (.invokevirtual 93, 3) := by decide +kernel
theorem dX1_shortest_33 : decode cX1_shortest 33 = .ok (.iload_n 2, 1) := by decide +kernel
theorem dX1_shortest_34 : decode cX1_shortest 34 = .ok (.invokevirtual 134, 3) := by decide +kernel
theorem dX1_shortest_37 : decode cX1_shortest 37 = .ok (.goto 8, 3) := by decide +kernel
theorem dX1_shortest_40 : decode cX1_shortest 40 = .ok (.aload_n 0, 1) := by decide +kernel
theorem dX1_shortest_41 : decode cX1_shortest 41 = .ok (.iconst 2, 1) := by decide +kernel
theorem dX1_shortest_42 : decode cX1_shortest 42 = .ok (.invokevirtual 82, 3) := by decide +kernel
theorem dX1_shortest_45 : decode cX1_shortest 45 = .ok (.ireturn, 1) := by decide +kernel
set_option maxRecDepth 20000 in
theorem ggX1_advise_X1_turned : GoodIn wsX1_advise wsX1_turned := goodIn_r _ [7, 8, 9, 10, 6, 11, 12, 13, 14, 15, 19, 20, 21, 22, 23, 24, 25] (by decide +kernel) (by decide +kernel)
set_option maxRecDepth 20000 in
theorem gX1_advise_X1_turned : GoodIn wsX1_advise (wsV RX1 61 RX1 yX1_turned wsX1_turned) := goodIn_app (goodIn_of _ (by decide +kernel)) ggX1_advise_X1_turned
set_option maxRecDepth 20000 in
theorem ggX1_advise_X1_many : GoodIn wsX1_advise wsX1_many := goodIn_r _ [18] (by decide +kernel) (by decide +kernel)
set_option maxRecDepth 20000 in
theorem gX1_advise_X1_many : GoodIn wsX1_advise (va_wsS RX1 74 yX1_many wsX1_many) := goodIn_app (goodIn_of _ (by decide +kernel)) ggX1_advise_X1_many
theorem dX1_advise_0 : decode cX1_advise 0 = .ok (.aload_n 0, 1) := by decide +kernel
theorem dX1_advise_1 : decode cX1_advise 1 = .ok (.iconst 0, 1) := by decide +kernel
theorem dX1_advise_2 : decode cX1_advise 2 = .ok (.putfield 36, 3) := by decide +kernel
theorem dX1_advise_5 : decode cX1_advise 5 = .ok (.iconst 0, 1) := by decide +kernel
theorem dX1_advise_6 : decode cX1_advise 6 = .ok (.istore_n 1, 1) := by decide +kernel
theorem dX1_advise_7 : decode cX1_advise 7 = .ok (.iconst 1, 1) := by decide +kernel
theorem dX1_advise_8 : decode cX1_advise 8 = .ok (.istore_n 2, 1) := by decide +kernel
theorem dX1_advise_9 : decode cX1_advise 9 = .ok (.iload_n 2, 1) := by decide +kernel
theorem dX1_advise_10 : decode cX1_advise 10 = .ok (.bipush 9, 2) := by decide +kernel
theorem dX1_advise_12 : decode cX1_advise 12 = .ok (.if_icmp .ge 40, 3) := by decide +kernel
theorem dX1_advise_15 : decode cX1_advise 15 = .ok (.aload_n 0, 1) := by decide +kernel
theorem dX1_advise_16 : decode cX1_advise 16 = .ok (.aload_n 0, 1) := by decide +kernel
theorem dX1_advise_17 : decode cX1_advise 17 = .ok (.getfield 13, 3) := by decide +kernel
theorem dX1_advise_20 : decode cX1_advise 20 = .ok (.iload_n 2, 1) := by decide +kernel
theorem dX1_advise_21 : decode cX1_advise 21 = .ok (.invokevirtual 61, 3) := by decide +kernel
theorem dX1_advise_24 : decode cX1_advise 24 = .ok (.iconst 1, 1) := by decide +kernel
theorem dX1_advise_25 : decode cX1_advise 25 = .ok (.invokestatic 74, 3) := by decide +kernel
theorem dX1_advise_28 : decode cX1_advise 28 = .ok (.aload_n 0, 1) := by decide +kernel
theorem dX1_advise_29 : decode cX1_advise 29 = .ok (.aload_n 0, 1) := by decide +kernel
theorem dX1_advise_30 : decode cX1_advise 30 = .ok (.getfield 13, 3) := by decide +kernel
theorem dX1_advise_33 : decode cX1_advise 33 = .ok (.iload_n 1, 1) := by decide +kernel
theorem dX1_advise_34 : decode cX1_advise 34 = .ok (.invokevirtual 61, 3) := by decide +kernel
theorem dX1_advise_37 : decode cX1_advise 37 = .ok (.iconst 1, 1) := by decide +kernel
theorem dX1_advise_38 : decode cX1_advise 38 = .ok (.invokestatic 74, 3) := by decide +kernel
theorem dX1_advise_41 : decode cX1_advise 41 = .ok (.if_icmp .le 5, 3) := by decide +kernel
theorem dX1_advise_44 : decode cX1_advise 44 = .ok (.iload_n 2, 1) := by decide +kernel
theorem dX1_advise_45 : decode cX1_advise 45 = .ok (.istore_n 1, 1) := by decide +kernel
theorem dX1_advise_46 : decode cX1_advise 46 = .ok (.iinc 2 1, 3) := by decide +kernel
theorem dX1_advise_49 : decode cX1_advise 49 = .ok (.goto (-40), 3) := by decide +kernel
theorem dX1_advise_52 : decode cX1_advise 52 = .ok (.iload_n 1, 1) := by decide +kernel
theorem dX1_advise_53 : decode cX1_advise 53 = .ok (.ireturn, 1) := by decide +kernel
set_option maxRecDepth 20000 in
theorem ggX1_mean_X1_allTurns : GoodIn wsX1_mean wsX1_allTurns := goodIn_r _ [7, 8, 9, 10, 11, 12, 13, 14, 15] (by decide +kernel) (by decide +kernel)
set_option maxRecDepth 20000 in
theorem gX1_mean_X1_allTurns : GoodIn wsX1_mean (wsV RX1 124 RX1 yX1_allTurns wsX1_allTurns) := goodIn_app (goodIn_of _ (by decide +kernel)) ggX1_mean_X1_allTurns
theorem dX1_mean_0 : decode cX1_mean 0 = .ok (.aload_n 0, 1) := by decide +kernel
theorem dX1_mean_1 : decode cX1_mean 1 = .ok (.iconst 0, 1) := by decide +kernel
theorem dX1_mean_2 : decode cX1_mean 2 = .ok (.putfield 36, 3) := by decide +kernel
theorem dX1_mean_5 : decode cX1_mean 5 = .ok (.aload_n 0, 1) := by decide +kernel
theorem dX1_mean_6 : decode cX1_mean 6 = .ok (.invokevirtual 124, 3) := by decide +kernel
theorem dX1_mean_9 : decode cX1_mean 9 = .ok (.i2d, 1) := by decide +kernel
theorem dX1_mean_10 : decode cX1_mean 10 = .ok (.ldc2_w 137, 3) := by decide +kernel
theorem dX1_mean_13 : decode cX1_mean 13 = .ok (.ddiv, 1) := by decide +kernel
theorem dX1_mean_14 : decode cX1_mean 14 = .ok (.dreturn, 1) := by decide +kernel
set_option maxRecDepth 20000 in
theorem ggX1_digest_X1_counted : GoodIn wsX1_digest wsX1_counted := goodIn_r _ [10, 11, 12, 13, 14, 9, 15, 16, 17, 18, 19, 20, 21, 22, 23, 24, 25, 26, 27, 28, 29, 4, 60, 61, 62, 63, 64, 65, 66] (by decide +kernel) (by decide +kernel)
set_option maxRecDepth 20000 in
theorem gX1_digest_X1_counted : GoodIn wsX1_digest (wsV RX1 128 RX1 yX1_counted wsX1_counted) := goodIn_app (goodIn_of _ (by decide +kernel)) ggX1_digest_X1_counted
set_option maxRecDepth 20000 in
theorem ggX1_digest_X1_placeTold : GoodIn wsX1_digest wsX1_placeTold := goodIn_r _ [33, 12, 34, 35, 9, 36, 60, 61, 62, 63, 64, 65, 66] (by decide +kernel) (by decide +kernel)
set_option maxRecDepth 20000 in
theorem gX1_digest_X1_placeTold : GoodIn wsX1_digest (wsV RX1 113 RX1 yX1_placeTold wsX1_placeTold) := goodIn_app (goodIn_of _ (by decide +kernel)) ggX1_digest_X1_placeTold
set_option maxRecDepth 20000 in
theorem ggX1_digest_X1_wordTold : GoodIn wsX1_digest wsX1_wordTold := goodIn_r _ [40, 4, 41, 42, 43, 9, 44, 5, 45, 46, 47, 48, 49, 50, 51, 52, 53, 54, 55, 56, 57, 58, 59, 16, 17, 18, 19, 20, 21, 22, 23, 24, 25, 13, 14, 15, 60, 61, 62, 63, 64, 65, 66] (by decide +kernel) (by decide +kernel)
set_option maxRecDepth 20000 in
theorem gX1_digest_X1_wordTold : GoodIn wsX1_digest (wsV RX1 131 RX1 yX1_wordTold wsX1_wordTold) := goodIn_app (goodIn_of _ (by decide +kernel)) ggX1_digest_X1_wordTold
theorem dX1_digest_0 : decode cX1_digest 0 = .ok (.aload_n 0, 1) := by decide +kernel
theorem dX1_digest_1 : decode cX1_digest 1 = .ok (.iconst 0, 1) := by decide +kernel
theorem dX1_digest_2 : decode cX1_digest 2 = .ok (.putfield 36, 3) := by decide +kernel
theorem dX1_digest_5 : decode cX1_digest 5 = .ok (.ldc2_w 139, 3) := by decide +kernel
theorem dX1_digest_8 : decode cX1_digest 8 = .ok (.lstore_n 1, 1) := by decide +kernel
theorem dX1_digest_9 : decode cX1_digest 9 = .ok (.iconst 0, 1) := by decide +kernel
theorem dX1_digest_10 : decode cX1_digest 10 = .ok (.istore_n 3, 1) := by decide +kernel
theorem dX1_digest_11 : decode cX1_digest 11 = .ok (.iload_n 3, 1) := by decide +kernel
theorem dX1_digest_12 : decode cX1_digest 12 = .ok (.bipush 7, 2) := by decide +kernel
theorem dX1_digest_14 : decode cX1_digest 14 = .ok (.if_icmp .ge 22, 3) := by decide +kernel
theorem dX1_digest_17 : decode cX1_digest 17 = .ok (.lload_n 1, 1) := by decide +kernel
theorem dX1_digest_18 : decode cX1_digest 18 = .ok (.ldc2_w 141, 3) := by decide +kernel
theorem dX1_digest_21 : decode cX1_digest 21 = .ok (.lmul, 1) := by decide +kernel
theorem dX1_digest_22 : decode cX1_digest 22 = .ok (.aload_n 0, 1) := by decide +kernel
theorem dX1_digest_23 : decode cX1_digest 23 = .ok (.iload_n 3, 1) := by decide +kernel
theorem dX1_digest_24 : decode cX1_digest 24 = .ok (.invokevirtual 128, 3) := by decide +kernel
theorem dX1_digest_27 : decode cX1_digest 27 = .ok (.i2l, 1) := by decide +kernel
theorem dX1_digest_28 : decode cX1_digest 28 = .ok (.ladd, 1) := by decide +kernel
theorem dX1_digest_29 : decode cX1_digest 29 = .ok (.lstore_n 1, 1) := by decide +kernel
theorem dX1_digest_30 : decode cX1_digest 30 = .ok (.iinc 3 1, 3) := by decide +kernel
theorem dX1_digest_33 : decode cX1_digest 33 = .ok (.goto (-22), 3) := by decide +kernel
theorem dX1_digest_36 : decode cX1_digest 36 = .ok (.iconst 0, 1) := by decide +kernel
theorem dX1_digest_37 : decode cX1_digest 37 = .ok (.istore_n 3, 1) := by decide +kernel
theorem dX1_digest_38 : decode cX1_digest 38 = .ok (.iload_n 3, 1) := by decide +kernel
theorem dX1_digest_39 : decode cX1_digest 39 = .ok (.bipush 8, 2) := by decide +kernel
theorem dX1_digest_41 : decode cX1_digest 41 = .ok (.if_icmp .ge 39, 3) := by decide +kernel
theorem dX1_digest_44 : decode cX1_digest 44 = .ok (.iconst 0, 1) := by decide +kernel
theorem dX1_digest_45 : decode cX1_digest 45 = .ok (.istore 4, 2) := by decide +kernel
theorem dX1_digest_47 : decode cX1_digest 47 = .ok (.iload 4, 2) := by decide +kernel
theorem dX1_digest_49 : decode cX1_digest 49 = .ok (.iconst 3, 1) := by decide +kernel
theorem dX1_digest_50 : decode cX1_digest 50 = .ok (.if_icmp .ge 24, 3) := by decide +kernel
theorem dX1_digest_53 : decode cX1_digest 53 = .ok (.lload_n 1, 1) := by decide +kernel
theorem dX1_digest_54 : decode cX1_digest 54 = .ok (.ldc2_w 141, 3) := by decide +kernel
theorem dX1_digest_57 : decode cX1_digest 57 = .ok (.lmul, 1) := by decide +kernel
theorem dX1_digest_58 : decode cX1_digest 58 = .ok (.aload_n 0, 1) := by decide +kernel
theorem dX1_digest_59 : decode cX1_digest 59 = .ok (.iload_n 3, 1) := by decide +kernel
theorem dX1_digest_60 : decode cX1_digest 60 = .ok (.iload 4, 2) := by decide +kernel
theorem dX1_digest_62 : decode cX1_digest 62 = .ok (.invokevirtual 113, 3) := by decide +kernel
theorem dX1_digest_65 : decode cX1_digest 65 = .ok (.i2l, 1) := by decide +kernel
theorem dX1_digest_66 : decode cX1_digest 66 = .ok (.ladd, 1) := by decide +kernel
theorem dX1_digest_67 : decode cX1_digest 67 = .ok (.lstore_n 1, 1) := by decide +kernel
theorem dX1_digest_68 : decode cX1_digest 68 = .ok (.iinc 4 1, 3) := by decide +kernel
theorem dX1_digest_71 : decode cX1_digest 71 = .ok (.goto (-24), 3) := by decide +kernel
theorem dX1_digest_74 : decode cX1_digest 74 = .ok (.iinc 3 1, 3) := by decide +kernel
theorem dX1_digest_77 : decode cX1_digest 77 = .ok (.goto (-39), 3) := by decide +kernel
theorem dX1_digest_80 : decode cX1_digest 80 = .ok (.iconst 0, 1) := by decide +kernel
theorem dX1_digest_81 : decode cX1_digest 81 = .ok (.istore_n 3, 1) := by decide +kernel
theorem dX1_digest_82 : decode cX1_digest 82 = .ok (.iload_n 3, 1) := by decide +kernel
theorem dX1_digest_83 : decode cX1_digest 83 = .ok (.iconst 5, 1) := by decide +kernel
theorem dX1_digest_84 : decode cX1_digest 84 = .ok (.if_icmp .ge 79, 3) := by decide +kernel
theorem dX1_digest_87 : decode cX1_digest 87 = .ok (.iconst 0, 1) := by decide +kernel
theorem dX1_digest_88 : decode cX1_digest 88 = .ok (.istore 4, 2) := by decide +kernel
theorem dX1_digest_90 : decode cX1_digest 90 = .ok (.iload 4, 2) := by decide +kernel
theorem dX1_digest_92 : decode cX1_digest 92 = .ok (.iconst 4, 1) := by decide +kernel
theorem dX1_digest_93 : decode cX1_digest 93 = .ok (.if_icmp .ge 24, 3) := by decide +kernel
theorem dX1_digest_96 : decode cX1_digest 96 = .ok (.lload_n 1, 1) := by decide +kernel
theorem dX1_digest_97 : decode cX1_digest 97 = .ok (.ldc2_w 141, 3) := by decide +kernel
theorem dX1_digest_100 : decode cX1_digest 100 = .ok (.lmul, 1) := by decide +kernel
theorem dX1_digest_101 : decode cX1_digest 101 = .ok (.aload_n 0, 1) := by decide +kernel
theorem dX1_digest_102 : decode cX1_digest 102 = .ok (.iload_n 3, 1) := by decide +kernel
theorem dX1_digest_103 : decode cX1_digest 103 = .ok (.iload 4, 2) := by decide +kernel
theorem dX1_digest_105 : decode cX1_digest 105 = .ok (.invokevirtual 131, 3) := by decide +kernel
theorem dX1_digest_108 : decode cX1_digest 108 = .ok (.i2l, 1) := by decide +kernel
theorem dX1_digest_109 : decode cX1_digest 109 = .ok (.ladd, 1) := by decide +kernel
theorem dX1_digest_110 : decode cX1_digest 110 = .ok (.lstore_n 1, 1) := by decide +kernel
theorem dX1_digest_111 : decode cX1_digest 111 = .ok (.iinc 4 1, 3) := by decide +kernel
theorem dX1_digest_114 : decode cX1_digest 114 = .ok (.goto (-24), 3) := by decide +kernel
theorem dX1_digest_117 : decode cX1_digest 117 = .ok (.iconst 0, 1) := by decide +kernel
theorem dX1_digest_118 : decode cX1_digest 118 = .ok (.istore 4, 2) := by decide +kernel
theorem dX1_digest_120 : decode cX1_digest 120 = .ok (.iload 4, 2) := by decide +kernel
theorem dX1_digest_122 : decode cX1_digest 122 = .ok (.aload_n 0, 1) := by decide +kernel
theorem dX1_digest_123 : decode cX1_digest 123 = .ok (.getfield 26, 3) := by decide +kernel
theorem dX1_digest_126 : decode cX1_digest 126 = .ok (.iload_n 3, 1) := by decide +kernel
theorem dX1_digest_127 : decode cX1_digest 127 = .ok (.iaload, 1) := by decide +kernel
theorem dX1_digest_128 : decode cX1_digest 128 = .ok (.if_icmp .ge 29, 3) := by decide +kernel
theorem dX1_digest_131 : decode cX1_digest 131 = .ok (.lload_n 1, 1) := by decide +kernel
theorem dX1_digest_132 : decode cX1_digest 132 = .ok (.ldc2_w 141, 3) := by decide +kernel
theorem dX1_digest_135 : decode cX1_digest 135 = .ok (.lmul, 1) := by decide +kernel
theorem dX1_digest_136 : decode cX1_digest 136 = .ok (.aload_n 0, 1) := by decide +kernel
theorem dX1_digest_137 : decode cX1_digest 137 = .ok (.getfield 29, 3) := by decide +kernel
theorem dX1_digest_140 : decode cX1_digest 140 = .ok (.bipush 12, 2) := by decide +kernel
theorem dX1_digest_142 : decode cX1_digest 142 = .ok (.iload_n 3, 1) := by decide +kernel
theorem dX1_digest_143 : decode cX1_digest 143 = .ok (.imul, 1) := by decide +kernel
theorem dX1_digest_144 : decode cX1_digest 144 = .ok (.iload 4, 2) := by decide +kernel
theorem dX1_digest_146 : decode cX1_digest 146 = .ok (.iadd, 1) := by decide +kernel
theorem dX1_digest_147 : decode cX1_digest 147 = .ok (.iaload, 1) := by decide +kernel
theorem dX1_digest_148 : decode cX1_digest 148 = .ok (.i2l, 1) := by decide +kernel
theorem dX1_digest_149 : decode cX1_digest 149 = .ok (.ladd, 1) := by decide +kernel
theorem dX1_digest_150 : decode cX1_digest 150 = .ok (.lstore_n 1, 1) := by decide +kernel
theorem dX1_digest_151 : decode cX1_digest 151 = .ok (.iinc 4 1, 3) := by decide +kernel
theorem dX1_digest_154 : decode cX1_digest 154 = .ok (.goto (-34), 3) := by decide +kernel
theorem dX1_digest_157 : decode cX1_digest 157 = .ok (.iinc 3 1, 3) := by decide +kernel
theorem dX1_digest_160 : decode cX1_digest 160 = .ok (.goto (-78), 3) := by decide +kernel
theorem dX1_digest_163 : decode cX1_digest 163 = .ok (.lload_n 1, 1) := by decide +kernel
theorem dX1_digest_164 : decode cX1_digest 164 = .ok (.lreturn, 1) := by decide +kernel
theorem dJ9_min_7cf53_0 : decode cJ9_min_7cf53 0 = .ok (.iload_n 0, 1) := by decide +kernel
theorem dJ9_min_7cf53_1 : decode cJ9_min_7cf53 1 = .ok (.iload_n 1, 1) := by decide +kernel
theorem dJ9_min_7cf53_2 : decode cJ9_min_7cf53 2 = .ok (.if_icmp .gt 7, 3) := by decide +kernel
theorem dJ9_min_7cf53_5 : decode cJ9_min_7cf53 5 = .ok (.iload_n 0, 1) := by decide +kernel
theorem dJ9_min_7cf53_6 : decode cJ9_min_7cf53 6 = .ok (.goto 4, 3) := by decide +kernel
theorem dJ9_min_7cf53_9 : decode cJ9_min_7cf53 9 = .ok (.iload_n 1, 1) := by decide +kernel
theorem dJ9_min_7cf53_10 : decode cJ9_min_7cf53 10 = .ok (.ireturn, 1) := by decide +kernel
