theorem dX0_init_0 : decode cX0_init 0 = .ok (.aload_n 0, 1) := by decide +kernel
theorem dX0_init_1 : decode cX0_init 1 = .ok (.invokespecial 1, 3) := by decide +kernel
theorem dX0_init_4 : decode cX0_init 4 = .ok (.aload_n 0, 1) := by decide +kernel
theorem dX0_init_5 : decode cX0_init 5 = .ok (.ldc2_w 9, 3) := by decide +kernel
theorem dX0_init_8 : decode cX0_init 8 = .ok (.putfield 11, 3) := by decide +kernel
theorem dX0_init_11 : decode cX0_init 11 = .ok (.aload_n 0, 1) := by decide +kernel
theorem dX0_init_12 : decode cX0_init 12 = .ok (.iconst 0, 1) := by decide +kernel
theorem dX0_init_13 : decode cX0_init 13 = .ok (.putfield 15, 3) := by decide +kernel
theorem dX0_init_16 : decode cX0_init 16 = .ok (.aload_n 0, 1) := by decide +kernel
theorem dX0_init_17 : decode cX0_init 17 = .ok (.iconst 5, 1) := by decide +kernel
theorem dX0_init_18 : decode cX0_init 18 = .ok (.bipush 12, 2) := by decide +kernel
theorem dX0_init_20 : decode cX0_init 20 = .ok (.multianewarray 19 2, 4) := by decide +kernel
theorem dX0_init_24 : decode cX0_init 24 = .ok (.putfield 21, 3) := by decide +kernel
theorem dX0_init_27 : decode cX0_init 27 = .ok (.aload_n 0, 1) := by decide +kernel
theorem dX0_init_28 : decode cX0_init 28 = .ok (.iconst 5, 1) := by decide +kernel
theorem dX0_init_29 : decode cX0_init 29 = .ok (.newarray .int, 2) := by decide +kernel
theorem dX0_init_31 : decode cX0_init 31 = .ok (.putfield 24, 3) := by decide +kernel
theorem dX0_init_34 : decode cX0_init 34 = .ok (.return_, 1) := by decide +kernel
set_option maxRecDepth 20000 in
theorem ggX0_turn_X0_checkFace : GoodIn wsX0_turn wsX0_checkFace := goodIn_ca (goodIn_r _ [6, 7, 8] (by decide +kernel) (by decide +kernel)) (goodIn_sub (fun _ h => List.mem_cons_of_mem _ (List.mem_append_left _ (List.mem_append_right _ h))) (by decide +kernel))
set_option maxRecDepth 20000 in
theorem gX0_turn_X0_checkFace : GoodIn wsX0_turn (va_wsS RX0 28 yX0_checkFace wsX0_checkFace) := goodIn_app (goodIn_of _ (by decide +kernel)) ggX0_turn_X0_checkFace
set_option maxRecDepth 20000 in
theorem ggX0_turn_X0_checkQuarters : GoodIn wsX0_turn wsX0_checkQuarters := goodIn_ca (goodIn_r _ [11, 12, 13] (by decide +kernel) (by decide +kernel)) (goodIn_sub (fun _ h => List.mem_cons_of_mem _ (List.mem_append_right _ h)) (by decide +kernel))
set_option maxRecDepth 20000 in
theorem gX0_turn_X0_checkQuarters : GoodIn wsX0_turn (va_wsS RX0 32 yX0_checkQuarters wsX0_checkQuarters) := goodIn_app (goodIn_of _ (by decide +kernel)) ggX0_turn_X0_checkQuarters
set_option maxRecDepth 20000 in
theorem ggX0_turn_X0_turnNumber : GoodIn wsX0_turn wsX0_turnNumber := goodIn_r _ [16] (by decide +kernel) (by decide +kernel)
set_option maxRecDepth 20000 in
theorem gX0_turn_X0_turnNumber : GoodIn wsX0_turn (va_wsS RX0 35 yX0_turnNumber wsX0_turnNumber) := goodIn_app (goodIn_of _ (by decide +kernel)) ggX0_turn_X0_turnNumber
set_option maxRecDepth 20000 in
theorem ggX0_turn_X0_turned : GoodIn wsX0_turn wsX0_turned := goodIn_r _ [19, 20, 21, 5, 22, 23, 24, 25, 26, 27, 28, 29, 30, 31, 32, 33, 34, 35, 36, 37, 38, 39, 40, 41, 42, 43, 44, 45, 46, 47, 48] (by decide +kernel) (by decide +kernel)
set_option maxRecDepth 20000 in
theorem gX0_turn_X0_turned : GoodIn wsX0_turn (va_wsS RX0 39 yX0_turned wsX0_turned) := goodIn_app (goodIn_of _ (by decide +kernel)) ggX0_turn_X0_turned
set_option maxRecDepth 20000 in
theorem ggX0_turn_X0_rightCorners : GoodIn wsX0_turn wsX0_rightCorners := goodIn_r _ [51, 52, 53, 5, 54, 38, 39, 40, 41, 42, 43] (by decide +kernel) (by decide +kernel)
set_option maxRecDepth 20000 in
theorem gX0_turn_X0_rightCorners : GoodIn wsX0_turn (va_wsS RX0 43 yX0_rightCorners wsX0_rightCorners) := goodIn_app (goodIn_of _ (by decide +kernel)) ggX0_turn_X0_rightCorners
theorem dX0_turn_0 : decode cX0_turn 0 = .ok (.iload_n 1, 1) := by decide +kernel
theorem dX0_turn_1 : decode cX0_turn 1 = .ok (.invokestatic 28, 3) := by decide +kernel
theorem dX0_turn_4 : decode cX0_turn 4 = .ok (.iload_n 2, 1) := by decide +kernel
theorem dX0_turn_5 : decode cX0_turn 5 = .ok (.invokestatic 32, 3) := by decide +kernel
theorem dX0_turn_8 : decode cX0_turn 8 = .ok (.aload_n 0, 1) := by decide +kernel
theorem dX0_turn_9 : decode cX0_turn 9 = .ok (.aload_n 0, 1) := by decide +kernel
theorem dX0_turn_10 : decode cX0_turn 10 = .ok (.getfield 11, 3) := by decide +kernel
theorem dX0_turn_13 : decode cX0_turn 13 = .ok (.iload_n 1, 1) := by decide +kernel
theorem dX0_turn_14 : decode cX0_turn 14 = .ok (.iload_n 2, 1) := by decide +kernel
theorem dX0_turn_15 : decode cX0_turn 15 = .ok (.invokestatic 35, 3) := by decide +kernel
theorem dX0_turn_18 : decode cX0_turn 18 = .ok (.invokestatic 39, 3) := by decide +kernel
theorem dX0_turn_21 : decode cX0_turn 21 = .ok (.putfield 11, 3) := by decide +kernel
theorem dX0_turn_24 : decode cX0_turn 24 = .ok (.aload_n 0, 1) := by decide +kernel
theorem dX0_turn_25 : decode cX0_turn 25 = .ok (.dup, 1) := by decide +kernel
theorem dX0_turn_26 : decode cX0_turn 26 = .ok (.getfield 15, 3) := by decide +kernel
theorem dX0_turn_29 : decode cX0_turn 29 = .ok (.iconst 1, 1) := by decide +kernel
theorem dX0_turn_30 : decode cX0_turn 30 = .ok (.iadd, 1) := by decide +kernel
theorem dX0_turn_31 : decode cX0_turn 31 = .ok (.putfield 15, 3) := by decide +kernel
theorem dX0_turn_34 : decode cX0_turn 34 = .ok (.aload_n 0, 1) := by decide +kernel
theorem dX0_turn_35 : decode cX0_turn 35 = .ok (.getfield 11, 3) := by decide +kernel
theorem dX0_turn_38 : decode cX0_turn 38 = .ok (.invokestatic 43, 3) := by decide +kernel
theorem dX0_turn_41 : decode cX0_turn 41 = .ok (.ireturn, 1) := by decide +kernel
set_option maxRecDepth 20000 in
theorem ggX0_play_X0_checkWord : GoodIn wsX0_play wsX0_checkWord := goodIn_ca (goodIn_r _ [11, 12, 13] (by decide +kernel) (by decide +kernel)) (goodIn_sub (fun _ h => List.mem_cons_of_mem _ (List.mem_append_right _ h)) (by decide +kernel))
set_option maxRecDepth 20000 in
theorem gX0_play_X0_checkWord : GoodIn wsX0_play (va_wsS RX0 47 yX0_checkWord wsX0_checkWord) := goodIn_app (goodIn_of _ (by decide +kernel)) ggX0_play_X0_checkWord
set_option maxRecDepth 20000 in
theorem ggX0_play_X0_behindWord : GoodIn wsX0_play wsX0_behindWord := goodIn_r _ [17, 5, 18, 19, 20, 10, 21, 22, 23, 24, 25, 26, 27, 28, 29, 30, 31, 32, 33, 34, 35, 36, 37, 38, 39, 40, 41, 42, 43, 44, 45, 46, 47, 48, 49, 50, 57, 58, 59, 60] (by decide +kernel) (by decide +kernel)
set_option maxRecDepth 20000 in
theorem gX0_play_X0_behindWord : GoodIn wsX0_play (wsV RX0 62 RX0 yX0_behindWord wsX0_behindWord) := goodIn_app (goodIn_of _ (by decide +kernel)) ggX0_play_X0_behindWord
set_option maxRecDepth 20000 in
theorem ggX0_play_X0_rightCorners : GoodIn wsX0_play wsX0_rightCorners := goodIn_r _ [53, 54, 55, 10, 56, 40, 41, 42, 43, 44, 45] (by decide +kernel) (by decide +kernel)
set_option maxRecDepth 20000 in
theorem gX0_play_X0_rightCorners : GoodIn wsX0_play (va_wsS RX0 43 yX0_rightCorners wsX0_rightCorners) := goodIn_app (goodIn_of _ (by decide +kernel)) ggX0_play_X0_rightCorners
theorem dX0_play_0 : decode cX0_play 0 = .ok (.iload_n 1, 1) := by decide +kernel
theorem dX0_play_1 : decode cX0_play 1 = .ok (.invokestatic 47, 3) := by decide +kernel
theorem dX0_play_4 : decode cX0_play 4 = .ok (.iload_n 2, 1) := by decide +kernel
theorem dX0_play_5 : decode cX0_play 5 = .ok (.iconst 1, 1) := by decide +kernel
theorem dX0_play_6 : decode cX0_play 6 = .ok (.if_icmp .lt 9, 3) := by decide +kernel
theorem dX0_play_9 : decode cX0_play 9 = .ok (.iload_n 2, 1) := by decide +kernel
theorem dX0_play_10 : decode cX0_play 10 = .ok (.bipush 50, 2) := by decide +kernel
theorem dX0_play_12 : decode cX0_play 12 = .ok (.if_icmp .le 13, 3) := by decide +kernel
theorem dX0_play_15 : decode cX0_play 15 = .ok (.new 50, 3) := by decide +kernel
theorem dX0_play_18 : decode cX0_play 18 = .ok (.dup, 1) := by decide +kernel
theorem dX0_play_19 : decode cX0_play 19 = .ok (.ldc 52, 2) := by decide +kernel
theorem dX0_play_21 : decode cX0_play 21 = .ok (.invokespecial 54, 3) := by decide +kernel
theorem dX0_play_24 : decode cX0_play 24 = .ok (.athrow, 1) := by decide +kernel
theorem dX0_play_25 : decode cX0_play 25 = .ok (.aload_n 0, 1) := by decide +kernel
theorem dX0_play_26 : decode cX0_play 26 = .ok (.getfield 24, 3) := by decide +kernel
theorem dX0_play_29 : decode cX0_play 29 = .ok (.iload_n 1, 1) := by decide +kernel
theorem dX0_play_30 : decode cX0_play 30 = .ok (.iaload, 1) := by decide +kernel
theorem dX0_play_31 : decode cX0_play 31 = .ok (.ifCond .ne 13, 3) := by decide +kernel
theorem dX0_play_34 : decode cX0_play 34 = .ok (.new 57, 3) := by decide +kernel
theorem dX0_play_37 : decode cX0_play 37 = .ok (.dup, 1) := by decide +kernel
theorem dX0_play_38 : decode cX0_play 38 = .ok (.ldc 59, 2) := by decide +kernel
theorem dX0_play_40 : decode cX0_play 40 = .ok (.invokespecial 61, 3) := by decide +kernel
theorem dX0_play_43 : decode cX0_play 43 = .ok (.athrow, 1) := by decide +kernel
theorem dX0_play_44 : decode cX0_play 44 = .ok (.iconst 0, 1) := by decide +kernel
theorem dX0_play_45 : decode cX0_play 45 = .ok (.istore_n 3, 1) := by decide +kernel
theorem dX0_play_46 : decode cX0_play 46 = .ok (.iload_n 3, 1) := by decide +kernel
theorem dX0_play_47 : decode cX0_play 47 = .ok (.iload_n 2, 1) := by decide +kernel
theorem dX0_play_48 : decode cX0_play 48 = .ok (.if_icmp .ge 22, 3) := by decide +kernel
theorem dX0_play_51 : decode cX0_play 51 = .ok (.aload_n 0, 1) := by decide +kernel
theorem dX0_play_52 : decode cX0_play 52 = .ok (.aload_n 0, 1) := by decide +kernel
theorem dX0_play_53 : decode cX0_play 53 = .ok (.aload_n 0, 1) := by decide +kernel
theorem dX0_play_54 : decode cX0_play 54 = .ok (.getfield 11, 3) := by decide +kernel
theorem dX0_play_57 : decode cX0_play 57 = .ok (.iload_n 1, 1) := by decide +kernel
theorem dX0_play_58 : decode cX0_play 58 = .ok (.invokevirtual 62, 3) := by decide +kernel
theorem dX0_play_61 : decode cX0_play 61 = .ok (.putfield 11, 3) := by decide +kernel
theorem dX0_play_64 : decode cX0_play 64 = .ok (.iinc 3 1, 3) := by decide +kernel
theorem dX0_play_67 : decode cX0_play 67 = .ok (.goto (-21), 3) := by decide +kernel
theorem dX0_play_70 : decode cX0_play 70 = .ok (.aload_n 0, 1) := by decide +kernel
theorem dX0_play_71 : decode cX0_play 71 = .ok (.dup, 1) := by decide +kernel
theorem dX0_play_72 : decode cX0_play 72 = .ok (.getfield 15, 3) := by decide +kernel
theorem dX0_play_75 : decode cX0_play 75 = .ok (.iload_n 2, 1) := by decide +kernel
theorem dX0_play_76 : decode cX0_play 76 = .ok (.aload_n 0, 1) := by decide +kernel
theorem dX0_play_77 : decode cX0_play 77 = .ok (.getfield 24, 3) := by decide +kernel
theorem dX0_play_80 : decode cX0_play 80 = .ok (.iload_n 1, 1) := by decide +kernel
theorem dX0_play_81 : decode cX0_play 81 = .ok (.iaload, 1) := by decide +kernel
theorem dX0_play_82 : decode cX0_play 82 = .ok (.imul, 1) := by decide +kernel
theorem dX0_play_83 : decode cX0_play 83 = .ok (.iadd, 1) := by decide +kernel
theorem dX0_play_84 : decode cX0_play 84 = .ok (.putfield 15, 3) := by decide +kernel
theorem dX0_play_87 : decode cX0_play 87 = .ok (.aload_n 0, 1) := by decide +kernel
theorem dX0_play_88 : decode cX0_play 88 = .ok (.getfield 11, 3) := by decide +kernel
theorem dX0_play_91 : decode cX0_play 91 = .ok (.invokestatic 43, 3) := by decide +kernel
theorem dX0_play_94 : decode cX0_play 94 = .ok (.ireturn, 1) := by decide +kernel
set_option maxRecDepth 20000 in
theorem ggX0_reset_X0_wrongCorners : GoodIn wsX0_reset wsX0_wrongCorners := goodIn_r _ [6, 7, 8, 5, 9, 10, 11, 12, 13, 14, 15, 16, 17, 18] (by decide +kernel) (by decide +kernel)
set_option maxRecDepth 20000 in
theorem gX0_reset_X0_wrongCorners : GoodIn wsX0_reset (va_wsS RX0 65 yX0_wrongCorners wsX0_wrongCorners) := goodIn_app (goodIn_of _ (by decide +kernel)) ggX0_reset_X0_wrongCorners
theorem dX0_reset_0 : decode cX0_reset 0 = .ok (.aload_n 0, 1) := by decide +kernel
theorem dX0_reset_1 : decode cX0_reset 1 = .ok (.getfield 11, 3) := by decide +kernel
theorem dX0_reset_4 : decode cX0_reset 4 = .ok (.invokestatic 65, 3) := by decide +kernel
theorem dX0_reset_7 : decode cX0_reset 7 = .ok (.istore_n 1, 1) := by decide +kernel
theorem dX0_reset_8 : decode cX0_reset 8 = .ok (.aload_n 0, 1) := by decide +kernel
theorem dX0_reset_9 : decode cX0_reset 9 = .ok (.ldc2_w 9, 3) := by decide +kernel
theorem dX0_reset_12 : decode cX0_reset 12 = .ok (.putfield 11, 3) := by decide +kernel
theorem dX0_reset_15 : decode cX0_reset 15 = .ok (.iload_n 1, 1) := by decide +kernel
theorem dX0_reset_16 : decode cX0_reset 16 = .ok (.ireturn, 1) := by decide +kernel
set_option maxRecDepth 20000 in
theorem ggX0_say_X0_checkWord : GoodIn wsX0_say wsX0_checkWord := goodIn_ca (goodIn_r _ [8, 9, 10] (by decide +kernel) (by decide +kernel)) (goodIn_sub (fun _ h => List.mem_cons_of_mem _ (List.mem_append_left _ (List.mem_append_right _ h))) (by decide +kernel))
set_option maxRecDepth 20000 in
theorem gX0_say_X0_checkWord : GoodIn wsX0_say (va_wsS RX0 47 yX0_checkWord wsX0_checkWord) := goodIn_app (goodIn_of _ (by decide +kernel)) ggX0_say_X0_checkWord
set_option maxRecDepth 20000 in
theorem ggX0_say_X0_checkFace : GoodIn wsX0_say wsX0_checkFace := goodIn_ca (goodIn_r _ [13, 9, 10] (by decide +kernel) (by decide +kernel)) (goodIn_sub (fun _ h => List.mem_cons_of_mem _ (List.mem_append_left _ (List.mem_append_right _ h))) (by decide +kernel))
set_option maxRecDepth 20000 in
theorem gX0_say_X0_checkFace : GoodIn wsX0_say (va_wsS RX0 28 yX0_checkFace wsX0_checkFace) := goodIn_app (goodIn_of _ (by decide +kernel)) ggX0_say_X0_checkFace
set_option maxRecDepth 20000 in
theorem ggX0_say_X0_checkQuarters : GoodIn wsX0_say wsX0_checkQuarters := goodIn_ca (goodIn_r _ [16, 17, 18] (by decide +kernel) (by decide +kernel)) (goodIn_sub (fun _ h => List.mem_cons_of_mem _ (List.mem_append_right _ h)) (by decide +kernel))
set_option maxRecDepth 20000 in
theorem gX0_say_X0_checkQuarters : GoodIn wsX0_say (va_wsS RX0 32 yX0_checkQuarters wsX0_checkQuarters) := goodIn_app (goodIn_of _ (by decide +kernel)) ggX0_say_X0_checkQuarters
set_option maxRecDepth 20000 in
theorem ggX0_say_X0_turnNumber : GoodIn wsX0_say wsX0_turnNumber := goodIn_r _ [21] (by decide +kernel) (by decide +kernel)
set_option maxRecDepth 20000 in
theorem gX0_say_X0_turnNumber : GoodIn wsX0_say (va_wsS RX0 35 yX0_turnNumber wsX0_turnNumber) := goodIn_app (goodIn_of _ (by decide +kernel)) ggX0_say_X0_turnNumber
theorem dX0_say_0 : decode cX0_say 0 = .ok (.iload_n 1, 1) := by decide +kernel
theorem dX0_say_1 : decode cX0_say 1 = .ok (.invokestatic 47, 3) := by decide +kernel
theorem dX0_say_4 : decode cX0_say 4 = .ok (.iload_n 2, 1) := by decide +kernel
theorem dX0_say_5 : decode cX0_say 5 = .ok (.invokestatic 28, 3) := by decide +kernel
theorem dX0_say_8 : decode cX0_say 8 = .ok (.iload_n 3, 1) := by decide +kernel
theorem dX0_say_9 : decode cX0_say 9 = .ok (.invokestatic 32, 3) := by decide +kernel
theorem dX0_say_12 : decode cX0_say 12 = .ok (.aload_n 0, 1) := by decide +kernel
theorem dX0_say_13 : decode cX0_say 13 = .ok (.getfield 24, 3) := by decide +kernel
theorem dX0_say_16 : decode cX0_say 16 = .ok (.iload_n 1, 1) := by decide +kernel
theorem dX0_say_17 : decode cX0_say 17 = .ok (.iaload, 1) := by decide +kernel
theorem dX0_say_18 : decode cX0_say 18 = .ok (.bipush 12, 2) := by decide +kernel
theorem dX0_say_20 : decode cX0_say 20 = .ok (.if_icmp .lt 13, 3) := by decide +kernel
theorem dX0_say_23 : decode cX0_say 23 = .ok (.new 57, 3) := by decide +kernel
theorem dX0_say_26 : decode cX0_say 26 = .ok (.dup, 1) := by decide +kernel
theorem dX0_say_27 : decode cX0_say 27 = .ok (.ldc 68, 2) := by decide +kernel
theorem dX0_say_29 : decode cX0_say 29 = .ok (.invokespecial 61, 3) := by decide +kernel
theorem dX0_say_32 : decode cX0_say 32 = .ok (.athrow, 1) := by decide +kernel
theorem dX0_say_33 : decode cX0_say 33 = .ok (.aload_n 0, 1) := by decide +kernel
theorem dX0_say_34 : decode cX0_say 34 = .ok (.getfield 21, 3) := by decide +kernel
theorem dX0_say_37 : decode cX0_say 37 = .ok (.iload_n 1, 1) := by decide +kernel
theorem dX0_say_38 : decode cX0_say 38 = .ok (.aaload, 1) := by decide +kernel
theorem dX0_say_39 : decode cX0_say 39 = .ok (.aload_n 0, 1) := by decide +kernel
theorem dX0_say_40 : decode cX0_say 40 = .ok (.getfield 24, 3) := by decide +kernel
theorem dX0_say_43 : decode cX0_say 43 = .ok (.iload_n 1, 1) := by decide +kernel
theorem dX0_say_44 : decode cX0_say 44 = .ok (.iaload, 1) := by decide +kernel
theorem dX0_say_45 : decode cX0_say 45 = .ok (.iload_n 2, 1) := by decide +kernel
theorem dX0_say_46 : decode cX0_say 46 = .ok (.iload_n 3, 1) := by decide +kernel
theorem dX0_say_47 : decode cX0_say 47 = .ok (.invokestatic 35, 3) := by decide +kernel
theorem dX0_say_50 : decode cX0_say 50 = .ok (.iastore, 1) := by decide +kernel
theorem dX0_say_51 : decode cX0_say 51 = .ok (.aload_n 0, 1) := by decide +kernel
theorem dX0_say_52 : decode cX0_say 52 = .ok (.getfield 24, 3) := by decide +kernel
theorem dX0_say_55 : decode cX0_say 55 = .ok (.iload_n 1, 1) := by decide +kernel
theorem dX0_say_56 : decode cX0_say 56 = .ok (.dup2, 1) := by decide +kernel
theorem dX0_say_57 : decode cX0_say 57 = .ok (.iaload, 1) := by decide +kernel
theorem dX0_say_58 : decode cX0_say 58 = .ok (.iconst 1, 1) := by decide +kernel
theorem dX0_say_59 : decode cX0_say 59 = .ok (.iadd, 1) := by decide +kernel
theorem dX0_say_60 : decode cX0_say 60 = .ok (.iastore, 1) := by decide +kernel
theorem dX0_say_61 : decode cX0_say 61 = .ok (.aload_n 0, 1) := by decide +kernel
theorem dX0_say_62 : decode cX0_say 62 = .ok (.getfield 24, 3) := by decide +kernel
theorem dX0_say_65 : decode cX0_say 65 = .ok (.iload_n 1, 1) := by decide +kernel
theorem dX0_say_66 : decode cX0_say 66 = .ok (.iaload, 1) := by decide +kernel
theorem dX0_say_67 : decode cX0_say 67 = .ok (.ireturn, 1) := by decide +kernel
set_option maxRecDepth 20000 in
theorem ggX0_round_X0_checkWord : GoodIn wsX0_round wsX0_checkWord := goodIn_ca (goodIn_r _ [6, 7, 8] (by decide +kernel) (by decide +kernel)) (goodIn_sub (fun _ h => List.mem_cons_of_mem _ (List.mem_append_right _ h)) (by decide +kernel))
set_option maxRecDepth 20000 in
theorem gX0_round_X0_checkWord : GoodIn wsX0_round (va_wsS RX0 47 yX0_checkWord wsX0_checkWord) := goodIn_app (goodIn_of _ (by decide +kernel)) ggX0_round_X0_checkWord
set_option maxRecDepth 20000 in
theorem ggX0_round_X0_turnedBack : GoodIn wsX0_round wsX0_turnedBack := goodIn_r _ [11, 12, 13, 5, 14, 15, 16, 17, 18, 19, 20] (by decide +kernel) (by decide +kernel)
set_option maxRecDepth 20000 in
theorem gX0_round_X0_turnedBack : GoodIn wsX0_round (va_wsS RX0 70 yX0_turnedBack wsX0_turnedBack) := goodIn_app (goodIn_of _ (by decide +kernel)) ggX0_round_X0_turnedBack
theorem dX0_round_0 : decode cX0_round 0 = .ok (.iload_n 1, 1) := by decide +kernel
theorem dX0_round_1 : decode cX0_round 1 = .ok (.invokestatic 47, 3) := by decide +kernel
theorem dX0_round_4 : decode cX0_round 4 = .ok (.aload_n 0, 1) := by decide +kernel
theorem dX0_round_5 : decode cX0_round 5 = .ok (.getfield 21, 3) := by decide +kernel
theorem dX0_round_8 : decode cX0_round 8 = .ok (.iload_n 1, 1) := by decide +kernel
theorem dX0_round_9 : decode cX0_round 9 = .ok (.aaload, 1) := by decide +kernel
theorem dX0_round_10 : decode cX0_round 10 = .ok (.astore_n 2, 1) := by decide +kernel
theorem dX0_round_11 : decode cX0_round 11 = .ok (.iconst 0, 1) := by decide +kernel
theorem dX0_round_12 : decode cX0_round 12 = .ok (.istore_n 3, 1) := by decide +kernel
theorem dX0_round_13 : decode cX0_round 13 = .ok (.aload_n 0, 1) := by decide +kernel
theorem dX0_round_14 : decode cX0_round 14 = .ok (.getfield 24, 3) := by decide +kernel
theorem dX0_round_17 : decode cX0_round 17 = .ok (.iload_n 1, 1) := by decide +kernel
theorem dX0_round_18 : decode cX0_round 18 = .ok (.iaload, 1) := by decide +kernel
theorem dX0_round_19 : decode cX0_round 19 = .ok (.iconst 1, 1) := by decide +kernel
theorem dX0_round_20 : decode cX0_round 20 = .ok (.isub, 1) := by decide +kernel
theorem dX0_round_21 : decode cX0_round 21 = .ok (.istore 4, 2) := by decide +kernel
theorem dX0_round_23 : decode cX0_round 23 = .ok (.iload_n 3, 1) := by decide +kernel
theorem dX0_round_24 : decode cX0_round 24 = .ok (.iload 4, 2) := by decide +kernel
theorem dX0_round_26 : decode cX0_round 26 = .ok (.if_icmp .gt 36, 3) := by decide +kernel
theorem dX0_round_29 : decode cX0_round 29 = .ok (.aload_n 2, 1) := by decide +kernel
theorem dX0_round_30 : decode cX0_round 30 = .ok (.iload_n 3, 1) := by decide +kernel
theorem dX0_round_31 : decode cX0_round 31 = .ok (.iaload, 1) := by decide +kernel
theorem dX0_round_32 : decode cX0_round 32 = .ok (.istore 5, 2) := by decide +kernel
theorem dX0_round_34 : decode cX0_round 34 = .ok (.aload_n 2, 1) := by decide +kernel
theorem dX0_round_35 : decode cX0_round 35 = .ok (.iload_n 3, 1) := by decide +kernel
theorem dX0_round_36 : decode cX0_round 36 = .ok (.aload_n 2, 1) := by decide +kernel
theorem dX0_round_37 : decode cX0_round 37 = .ok (.iload 4, 2) := by decide +kernel
theorem dX0_round_39 : decode cX0_round 39 = .ok (.iaload, 1) := by decide +kernel
theorem dX0_round_40 : decode cX0_round 40 = .ok (.invokestatic 70, 3) := by decide +kernel
theorem dX0_round_43 : decode cX0_round 43 = .ok (.iastore, 1) := by decide +kernel
theorem dX0_round_44 : decode cX0_round 44 = .ok (.aload_n 2, 1) := by decide +kernel
theorem dX0_round_45 : decode cX0_round 45 = .ok (.iload 4, 2) := by decide +kernel
theorem dX0_round_47 : decode cX0_round 47 = .ok (.iload 5, 2) := by decide +kernel
theorem dX0_round_49 : decode cX0_round 49 = .ok (.invokestatic 70, 3) := by decide +kernel
theorem dX0_round_52 : decode cX0_round 52 = .ok (.iastore, 1) := by decide +kernel
theorem dX0_round_53 : decode cX0_round 53 = .ok (.iinc 3 1, 3) := by decide +kernel
theorem dX0_round_56 : decode cX0_round 56 = .ok (.iinc 4 (-1), 3) := by decide +kernel
theorem dX0_round_59 : decode cX0_round 59 = .ok (.goto (-36), 3) := by decide +kernel
theorem dX0_round_62 : decode cX0_round 62 = .ok (.aload_n 0, 1) := by decide +kernel
theorem dX0_round_63 : decode cX0_round 63 = .ok (.getfield 24, 3) := by decide +kernel
theorem dX0_round_66 : decode cX0_round 66 = .ok (.iload_n 1, 1) := by decide +kernel
theorem dX0_round_67 : decode cX0_round 67 = .ok (.iaload, 1) := by decide +kernel
theorem dX0_round_68 : decode cX0_round 68 = .ok (.ireturn, 1) := by decide +kernel
set_option maxRecDepth 20000 in
theorem ggX0_tidy_X0_checkWord : GoodIn wsX0_tidy wsX0_checkWord := goodIn_ca (goodIn_r _ [6, 7, 8] (by decide +kernel) (by decide +kernel)) (goodIn_sub (fun _ h => List.mem_cons_of_mem _ (List.mem_append_right _ h)) (by decide +kernel))
set_option maxRecDepth 20000 in
theorem gX0_tidy_X0_checkWord : GoodIn wsX0_tidy (va_wsS RX0 47 yX0_checkWord wsX0_checkWord) := goodIn_app (goodIn_of _ (by decide +kernel)) ggX0_tidy_X0_checkWord
set_option maxRecDepth 20000 in
theorem ggX0_tidy_X0_keep : GoodIn wsX0_tidy wsX0_keep := goodIn_r _ [11, 12, 13, 5, 14, 15, 16, 17, 18, 19, 20] (by decide +kernel) (by decide +kernel)
set_option maxRecDepth 20000 in
theorem gX0_tidy_X0_keep : GoodIn wsX0_tidy (va_wsS RX0 76 yX0_keep wsX0_keep) := goodIn_app (goodIn_of _ (by decide +kernel)) ggX0_tidy_X0_keep
theorem dX0_tidy_0 : decode cX0_tidy 0 = .ok (.iload_n 1, 1) := by decide +kernel
theorem dX0_tidy_1 : decode cX0_tidy 1 = .ok (.invokestatic 47, 3) := by decide +kernel
theorem dX0_tidy_4 : decode cX0_tidy 4 = .ok (.iconst 0, 1) := by decide +kernel
theorem dX0_tidy_5 : decode cX0_tidy 5 = .ok (.istore_n 2, 1) := by decide +kernel
theorem dX0_tidy_6 : decode cX0_tidy 6 = .ok (.iconst 0, 1) := by decide +kernel
theorem dX0_tidy_7 : decode cX0_tidy 7 = .ok (.istore_n 3, 1) := by decide +kernel
theorem dX0_tidy_8 : decode cX0_tidy 8 = .ok (.iload_n 3, 1) := by decide +kernel
theorem dX0_tidy_9 : decode cX0_tidy 9 = .ok (.aload_n 0, 1) := by decide +kernel
theorem dX0_tidy_10 : decode cX0_tidy 10 = .ok (.getfield 24, 3) := by decide +kernel
theorem dX0_tidy_13 : decode cX0_tidy 13 = .ok (.iload_n 1, 1) := by decide +kernel
theorem dX0_tidy_14 : decode cX0_tidy 14 = .ok (.iaload, 1) := by decide +kernel
theorem dX0_tidy_15 : decode cX0_tidy 15 = .ok (.if_icmp .ge 28, 3) := by decide +kernel
theorem dX0_tidy_18 : decode cX0_tidy 18 = .ok (.aload_n 0, 1) := by decide +kernel
theorem dX0_tidy_19 : decode cX0_tidy 19 = .ok (.getfield 21, 3) := by decide +kernel
theorem dX0_tidy_22 : decode cX0_tidy 22 = .ok (.iload_n 1, 1) := by decide +kernel
theorem dX0_tidy_23 : decode cX0_tidy 23 = .ok (.aaload, 1) := by decide +kernel
theorem dX0_tidy_24 : decode cX0_tidy 24 = .ok (.iload_n 2, 1) := by decide +kernel
theorem dX0_tidy_25 : decode cX0_tidy 25 = .ok (.aload_n 0, 1) := by decide +kernel
theorem dX0_tidy_26 : decode cX0_tidy 26 = .ok (.getfield 21, 3) := by decide +kernel
theorem dX0_tidy_29 : decode cX0_tidy 29 = .ok (.iload_n 1, 1) := by decide +kernel
theorem dX0_tidy_30 : decode cX0_tidy 30 = .ok (.aaload, 1) := by decide +kernel
theorem dX0_tidy_31 : decode cX0_tidy 31 = .ok (.iload_n 3, 1) := by decide +kernel
theorem dX0_tidy_32 : decode cX0_tidy 32 = .ok (.iaload, 1) := by decide +kernel
theorem dX0_tidy_33 : decode cX0_tidy 33 = .ok (.invokestatic 76, 3) := by decide +kernel
theorem dX0_tidy_36 : decode cX0_tidy 36 = .ok (.istore_n 2, 1) := by decide +kernel
theorem dX0_tidy_37 : decode cX0_tidy 37 = .ok (.iinc 3 1, 3) := by decide +kernel
theorem dX0_tidy_40 : decode cX0_tidy 40 = .ok (.goto (-32), 3) := by decide +kernel
theorem dX0_tidy_43 : decode cX0_tidy 43 = .ok (.aload_n 0, 1) := by decide +kernel
theorem dX0_tidy_44 : decode cX0_tidy 44 = .ok (.getfield 24, 3) := by decide +kernel
theorem dX0_tidy_47 : decode cX0_tidy 47 = .ok (.iload_n 1, 1) := by decide +kernel
theorem dX0_tidy_48 : decode cX0_tidy 48 = .ok (.iload_n 2, 1) := by decide +kernel
theorem dX0_tidy_49 : decode cX0_tidy 49 = .ok (.iastore, 1) := by decide +kernel
theorem dX0_tidy_50 : decode cX0_tidy 50 = .ok (.iload_n 2, 1) := by decide +kernel
theorem dX0_tidy_51 : decode cX0_tidy 51 = .ok (.ireturn, 1) := by decide +kernel
set_option maxRecDepth 20000 in
theorem ggX0_told_X0_checkPlace : GoodIn wsX0_told wsX0_checkPlace := goodIn_ca (goodIn_r _ [5, 6, 7] (by decide +kernel) (by decide +kernel)) (goodIn_sub (fun _ h => List.mem_cons_of_mem _ (List.mem_append_right _ h)) (by decide +kernel))
set_option maxRecDepth 20000 in
theorem gX0_told_X0_checkPlace : GoodIn wsX0_told (va_wsS RX0 80 yX0_checkPlace wsX0_checkPlace) := goodIn_app (goodIn_of _ (by decide +kernel)) ggX0_told_X0_checkPlace
set_option maxRecDepth 20000 in
theorem ggX0_told_X0_checkWhat : GoodIn wsX0_told wsX0_checkWhat := goodIn_ca (goodIn_r _ [10, 6, 7] (by decide +kernel) (by decide +kernel)) (goodIn_sub (fun _ h => List.mem_cons_of_mem _ (List.mem_append_right _ h)) (by decide +kernel))
set_option maxRecDepth 20000 in
theorem gX0_told_X0_checkWhat : GoodIn wsX0_told (va_wsS RX0 83 yX0_checkWhat wsX0_checkWhat) := goodIn_app (goodIn_of _ (by decide +kernel)) ggX0_told_X0_checkWhat
set_option maxRecDepth 20000 in
theorem ggX0_told_X0_cornerAt : GoodIn wsX0_told wsX0_cornerAt := goodIn_r _ [13] (by decide +kernel) (by decide +kernel)
set_option maxRecDepth 20000 in
theorem gX0_told_X0_cornerAt : GoodIn wsX0_told (va_wsS RX0 87 yX0_cornerAt wsX0_cornerAt) := goodIn_app (goodIn_of _ (by decide +kernel)) ggX0_told_X0_cornerAt
set_option maxRecDepth 20000 in
theorem ggX0_told_X0_twistAt : GoodIn wsX0_told wsX0_twistAt := goodIn_r _ [16] (by decide +kernel) (by decide +kernel)
set_option maxRecDepth 20000 in
theorem gX0_told_X0_twistAt : GoodIn wsX0_told (va_wsS RX0 91 yX0_twistAt wsX0_twistAt) := goodIn_app (goodIn_of _ (by decide +kernel)) ggX0_told_X0_twistAt
set_option maxRecDepth 20000 in
theorem ggX0_told_X0_isRight : GoodIn wsX0_told wsX0_isRight := goodIn_r _ [19, 11, 12, 4, 13, 14, 15, 16] (by decide +kernel) (by decide +kernel)
set_option maxRecDepth 20000 in
theorem gX0_told_X0_isRight : GoodIn wsX0_told (va_wsS RX0 94 yX0_isRight wsX0_isRight) := goodIn_app (goodIn_of _ (by decide +kernel)) ggX0_told_X0_isRight
theorem dX0_told_0 : decode cX0_told 0 = .ok (.iload_n 1, 1) := by decide +kernel
theorem dX0_told_1 : decode cX0_told 1 = .ok (.invokestatic 80, 3) := by decide +kernel
theorem dX0_told_4 : decode cX0_told 4 = .ok (.iload_n 2, 1) := by decide +kernel
theorem dX0_told_5 : decode cX0_told 5 = .ok (.iconst 3, 1) := by decide +kernel
theorem dX0_told_6 : decode cX0_told 6 = .ok (.invokestatic 83, 3) := by decide +kernel
theorem dX0_told_9 : decode cX0_told 9 = .ok (.iload_n 2, 1) := by decide +kernel
theorem dX0_told_10 : decode cX0_told 10 = .ok (.ifCond .ne 12, 3) := by decide +kernel
theorem dX0_told_13 : decode cX0_told 13 = .ok (.aload_n 0, 1) := by decide +kernel
theorem dX0_told_14 : decode cX0_told 14 = .ok (.getfield 11, 3) := by decide +kernel
theorem dX0_told_17 : decode cX0_told 17 = .ok (.iload_n 1, 1) := by decide +kernel
theorem dX0_told_18 : decode cX0_told 18 = .ok (.invokestatic 87, 3) := by decide +kernel
theorem dX0_told_21 : decode cX0_told 21 = .ok (.ireturn, 1) := by decide +kernel
theorem dX0_told_22 : decode cX0_told 22 = .ok (.iload_n 2, 1) := by decide +kernel
theorem dX0_told_23 : decode cX0_told 23 = .ok (.iconst 1, 1) := by decide +kernel
theorem dX0_told_24 : decode cX0_told 24 = .ok (.if_icmp .ne 12, 3) := by decide +kernel
theorem dX0_told_27 : decode cX0_told 27 = .ok (.aload_n 0, 1) := by decide +kernel
theorem dX0_told_28 : decode cX0_told 28 = .ok (.getfield 11, 3) := by decide +kernel
theorem dX0_told_31 : decode cX0_told 31 = .ok (.iload_n 1, 1) := by decide +kernel
theorem dX0_told_32 : decode cX0_told 32 = .ok (.invokestatic 91, 3) := by decide +kernel
theorem dX0_told_35 : decode cX0_told 35 = .ok (.ireturn, 1) := by decide +kernel
theorem dX0_told_36 : decode cX0_told 36 = .ok (.aload_n 0, 1) := by decide +kernel
theorem dX0_told_37 : decode cX0_told 37 = .ok (.getfield 11, 3) := by decide +kernel
theorem dX0_told_40 : decode cX0_told 40 = .ok (.iload_n 1, 1) := by decide +kernel
theorem dX0_told_41 : decode cX0_told 41 = .ok (.invokestatic 94, 3) := by decide +kernel
theorem dX0_told_44 : decode cX0_told 44 = .ok (.ifCond .eq 7, 3) := by decide +kernel
theorem dX0_told_47 : decode cX0_told 47 = .ok (.iconst 1, 1) := by decide +kernel
theorem dX0_told_48 : decode cX0_told 48 = .ok (.goto 4, 3) := by decide +kernel
theorem dX0_told_51 : decode cX0_told 51 = .ok (.iconst 0, 1) := by decide +kernel
theorem dX0_told_52 : decode cX0_told 52 = .ok (.ireturn, 1) := by decide +kernel
set_option maxRecDepth 20000 in
theorem ggX0_where_X0_cornerAt : GoodIn wsX0_where wsX0_cornerAt := goodIn_r _ [7] (by decide +kernel) (by decide +kernel)
set_option maxRecDepth 20000 in
theorem gX0_where_X0_cornerAt : GoodIn wsX0_where (va_wsS RX0 87 yX0_cornerAt wsX0_cornerAt) := goodIn_app (goodIn_of _ (by decide +kernel)) ggX0_where_X0_cornerAt
theorem dX0_where_0 : decode cX0_where 0 = .ok (.iload_n 1, 1) := by decide +kernel
theorem dX0_where_1 : decode cX0_where 1 = .ok (.ifCond .lt 9, 3) := by decide +kernel
theorem dX0_where_4 : decode cX0_where 4 = .ok (.iload_n 1, 1) := by decide +kernel
theorem dX0_where_5 : decode cX0_where 5 = .ok (.bipush 8, 2) := by decide +kernel
theorem dX0_where_7 : decode cX0_where 7 = .ok (.if_icmp .lt 13, 3) := by decide +kernel
theorem dX0_where_10 : decode cX0_where 10 = .ok (.new 98, 3) := by decide +kernel
theorem dX0_where_13 : decode cX0_where 13 = .ok (.dup, 1) := by decide +kernel
theorem dX0_where_14 : decode cX0_where 14 = .ok (.ldc 100, 2) := by decide +kernel
theorem dX0_where_16 : decode cX0_where 16 = .ok (.invokespecial 102, 3) := by decide +kernel
theorem dX0_where_19 : decode cX0_where 19 = .ok (.athrow, 1) := by decide +kernel
theorem dX0_where_20 : decode cX0_where 20 = .ok (.iconst 0, 1) := by decide +kernel
theorem dX0_where_21 : decode cX0_where 21 = .ok (.istore_n 2, 1) := by decide +kernel
theorem dX0_where_22 : decode cX0_where 22 = .ok (.iload_n 2, 1) := by decide +kernel
theorem dX0_where_23 : decode cX0_where 23 = .ok (.bipush 7, 2) := by decide +kernel
theorem dX0_where_25 : decode cX0_where 25 = .ok (.if_icmp .ge 21, 3) := by decide +kernel
theorem dX0_where_28 : decode cX0_where 28 = .ok (.aload_n 0, 1) := by decide +kernel
theorem dX0_where_29 : decode cX0_where 29 = .ok (.getfield 11, 3) := by decide +kernel
theorem dX0_where_32 : decode cX0_where 32 = .ok (.iload_n 2, 1) := by decide +kernel
theorem dX0_where_33 : decode cX0_where 33 = .ok (.invokestatic 87, 3) := by decide +kernel
theorem dX0_where_36 : decode cX0_where 36 = .ok (.iload_n 1, 1) := by decide +kernel
theorem dX0_where_37 : decode cX0_where 37 = .ok (.if_icmp .eq 9, 3) := by decide +kernel
theorem dX0_where_40 : decode cX0_where 40 = .ok (.iinc 2 1, 3) := by decide +kernel
theorem dX0_where_43 : decode cX0_where 43 = .ok (.goto (-21), 3) := by decide +kernel
theorem dX0_where_46 : decode cX0_where 46 = .ok (.iload_n 2, 1) := by decide +kernel
theorem dX0_where_47 : decode cX0_where 47 = .ok (.ireturn, 1) := by decide +kernel
set_option maxRecDepth 20000 in
theorem ggX0_count_X0_checkWhat : GoodIn wsX0_count wsX0_checkWhat := goodIn_ca (goodIn_r _ [6, 7, 8] (by decide +kernel) (by decide +kernel)) (goodIn_sub (fun _ h => List.mem_cons_of_mem _ (List.mem_append_right _ h)) (by decide +kernel))
set_option maxRecDepth 20000 in
theorem gX0_count_X0_checkWhat : GoodIn wsX0_count (va_wsS RX0 83 yX0_checkWhat wsX0_checkWhat) := goodIn_app (goodIn_of _ (by decide +kernel)) ggX0_count_X0_checkWhat
set_option maxRecDepth 20000 in
theorem ggX0_count_X0_rightCorners : GoodIn wsX0_count wsX0_rightCorners := goodIn_r _ [11, 12, 13, 5, 14, 15, 16, 17, 18, 19, 20] (by decide +kernel) (by decide +kernel)
set_option maxRecDepth 20000 in
theorem gX0_count_X0_rightCorners : GoodIn wsX0_count (va_wsS RX0 43 yX0_rightCorners wsX0_rightCorners) := goodIn_app (goodIn_of _ (by decide +kernel)) ggX0_count_X0_rightCorners
set_option maxRecDepth 20000 in
theorem ggX0_count_X0_placedCorners : GoodIn wsX0_count wsX0_placedCorners := goodIn_r _ [23, 15, 16, 5, 17] (by decide +kernel) (by decide +kernel)
set_option maxRecDepth 20000 in
theorem gX0_count_X0_placedCorners : GoodIn wsX0_count (va_wsS RX0 103 yX0_placedCorners wsX0_placedCorners) := goodIn_app (goodIn_of _ (by decide +kernel)) ggX0_count_X0_placedCorners
set_option maxRecDepth 20000 in
theorem ggX0_count_X0_untwistedCorners : GoodIn wsX0_count wsX0_untwistedCorners := goodIn_r _ [26, 18, 19, 5, 20] (by decide +kernel) (by decide +kernel)
set_option maxRecDepth 20000 in
theorem gX0_count_X0_untwistedCorners : GoodIn wsX0_count (va_wsS RX0 106 yX0_untwistedCorners wsX0_untwistedCorners) := goodIn_app (goodIn_of _ (by decide +kernel)) ggX0_count_X0_untwistedCorners
set_option maxRecDepth 20000 in
theorem ggX0_count_X0_pairsOutOfOrder : GoodIn wsX0_count wsX0_pairsOutOfOrder := goodIn_r _ [29, 15, 16, 5, 17] (by decide +kernel) (by decide +kernel)
set_option maxRecDepth 20000 in
theorem gX0_count_X0_pairsOutOfOrder : GoodIn wsX0_count (va_wsS RX0 109 yX0_pairsOutOfOrder wsX0_pairsOutOfOrder) := goodIn_app (goodIn_of _ (by decide +kernel)) ggX0_count_X0_pairsOutOfOrder
set_option maxRecDepth 20000 in
theorem ggX0_count_X0_orderOf : GoodIn wsX0_count wsX0_orderOf := goodIn_r _ [32, 33, 34, 35, 5, 36, 15, 16, 17, 18, 19, 20, 37, 38, 39, 40, 41] (by decide +kernel) (by decide +kernel)
set_option maxRecDepth 20000 in
theorem gX0_count_X0_orderOf : GoodIn wsX0_count (va_wsS RX0 112 yX0_orderOf wsX0_orderOf) := goodIn_app (goodIn_of _ (by decide +kernel)) ggX0_count_X0_orderOf
set_option maxRecDepth 20000 in
theorem ggX0_count_X0_turnsOfAllWords : GoodIn wsX0_count wsX0_turnsOfAllWords := goodIn_r _ [45, 46, 47, 48, 49, 50] (by decide +kernel) (by decide +kernel)
set_option maxRecDepth 20000 in
theorem gX0_count_X0_turnsOfAllWords : GoodIn wsX0_count (wsV RX0 115 RX0 yX0_turnsOfAllWords wsX0_turnsOfAllWords) := goodIn_app (goodIn_of _ (by decide +kernel)) ggX0_count_X0_turnsOfAllWords
theorem dX0_count_0 : decode cX0_count 0 = .ok (.iload_n 1, 1) := by decide +kernel
theorem dX0_count_1 : decode cX0_count 1 = .ok (.bipush 7, 2) := by decide +kernel
theorem dX0_count_3 : decode cX0_count 3 = .ok (.invokestatic 83, 3) := by decide +kernel
theorem dX0_count_6 : decode cX0_count 6 = .ok (.iload_n 1, 1) := by decide +kernel
theorem dX0_count_7 : decode cX0_count 7 = .ok (.tableswitch 84 0 5 #[37, 42, 50, 58, 66, 76], 37) := by decide +kernel
theorem dX0_count_44 : decode cX0_count 44 = .ok (.aload_n 0, 1) := by decide +kernel
theorem dX0_count_45 : decode cX0_count 45 = .ok (.getfield 15, 3) := by decide +kernel
theorem dX0_count_48 : decode cX0_count 48 = .ok (.ireturn, 1) := by decide +kernel
theorem dX0_count_49 : decode cX0_count 49 = .ok (.aload_n 0, 1) := by decide +kernel
theorem dX0_count_50 : decode cX0_count 50 = .ok (.getfield 11, 3) := by decide +kernel
theorem dX0_count_53 : decode cX0_count 53 = .ok (.invokestatic 43, 3) := by decide +kernel
theorem dX0_count_56 : decode cX0_count 56 = .ok (.ireturn, 1) := by decide +kernel
theorem dX0_count_57 : decode cX0_count 57 = .ok (.aload_n 0, 1) := by decide +kernel
theorem dX0_count_58 : decode cX0_count 58 = .ok (.getfield 11, 3) := by decide +kernel
theorem dX0_count_61 : decode cX0_count 61 = .ok (.invokestatic 103, 3) := by decide +kernel
theorem dX0_count_64 : decode cX0_count 64 = .ok (.ireturn, 1) := by decide +kernel
theorem dX0_count_65 : decode cX0_count 65 = .ok (.aload_n 0, 1) := by decide +kernel
theorem dX0_count_66 : decode cX0_count 66 = .ok (.getfield 11, 3) := by decide +kernel
theorem dX0_count_69 : decode cX0_count 69 = .ok (.invokestatic 106, 3) := by decide +kernel
theorem dX0_count_72 : decode cX0_count 72 = .ok (.ireturn, 1) := by decide +kernel
theorem dX0_count_73 : decode cX0_count 73 = .ok (.aload_n 0, 1) := by decide +kernel
theorem dX0_count_74 : decode cX0_count 74 = .ok (.getfield 11, 3) := by decide +kernel
theorem dX0_count_77 : decode cX0_count 77 = .ok (.invokestatic 109, 3) := by decide +kernel
theorem dX0_count_80 : decode cX0_count 80 = .ok (.iconst 2, 1) := by decide +kernel
theorem dX0_count_81 : decode cX0_count 81 = .ok (.irem, 1) := by decide +kernel
theorem dX0_count_82 : decode cX0_count 82 = .ok (.ireturn, 1) := by decide +kernel
theorem dX0_count_83 : decode cX0_count 83 = .ok (.aload_n 0, 1) := by decide +kernel
theorem dX0_count_84 : decode cX0_count 84 = .ok (.getfield 11, 3) := by decide +kernel
theorem dX0_count_87 : decode cX0_count 87 = .ok (.invokestatic 112, 3) := by decide +kernel
theorem dX0_count_90 : decode cX0_count 90 = .ok (.ireturn, 1) := by decide +kernel
theorem dX0_count_91 : decode cX0_count 91 = .ok (.aload_n 0, 1) := by decide +kernel
theorem dX0_count_92 : decode cX0_count 92 = .ok (.invokevirtual 115, 3) := by decide +kernel
theorem dX0_count_95 : decode cX0_count 95 = .ok (.ireturn, 1) := by decide +kernel
set_option maxRecDepth 20000 in
theorem ggX0_word_X0_checkWord : GoodIn wsX0_word wsX0_checkWord := goodIn_ca (goodIn_r _ [5, 6, 7] (by decide +kernel) (by decide +kernel)) (goodIn_sub (fun _ h => List.mem_cons_of_mem _ (List.mem_append_right _ h)) (by decide +kernel))
set_option maxRecDepth 20000 in
theorem gX0_word_X0_checkWord : GoodIn wsX0_word (va_wsS RX0 47 yX0_checkWord wsX0_checkWord) := goodIn_app (goodIn_of _ (by decide +kernel)) ggX0_word_X0_checkWord
set_option maxRecDepth 20000 in
theorem ggX0_word_X0_checkWhat : GoodIn wsX0_word wsX0_checkWhat := goodIn_ca (goodIn_r _ [10, 6, 7] (by decide +kernel) (by decide +kernel)) (goodIn_sub (fun _ h => List.mem_cons_of_mem _ (List.mem_append_right _ h)) (by decide +kernel))
set_option maxRecDepth 20000 in
theorem gX0_word_X0_checkWhat : GoodIn wsX0_word (va_wsS RX0 83 yX0_checkWhat wsX0_checkWhat) := goodIn_app (goodIn_of _ (by decide +kernel)) ggX0_word_X0_checkWhat
set_option maxRecDepth 20000 in
theorem ggX0_word_X0_deedOf : GoodIn wsX0_word wsX0_deedOf := goodIn_r _ [14, 15, 16, 17, 18, 4, 19, 1, 20, 21, 22, 23, 24, 25, 26, 27, 28, 29, 30, 31, 32, 33, 34, 35, 36, 37, 38, 39, 40, 41, 42, 43, 44, 45, 46, 47, 48, 49, 50, 51, 52, 71, 72, 73, 74] (by decide +kernel) (by decide +kernel)
set_option maxRecDepth 20000 in
theorem gX0_word_X0_deedOf : GoodIn wsX0_word (wsV RX0 119 RX0 yX0_deedOf wsX0_deedOf) := goodIn_app (goodIn_of _ (by decide +kernel)) ggX0_word_X0_deedOf
set_option maxRecDepth 20000 in
theorem ggX0_word_X0_orderOf : GoodIn wsX0_word wsX0_orderOf := goodIn_r _ [55, 15, 56, 57, 4, 58, 42, 43, 44, 45, 46, 47, 48, 49, 50, 51, 52] (by decide +kernel) (by decide +kernel)
set_option maxRecDepth 20000 in
theorem gX0_word_X0_orderOf : GoodIn wsX0_word (va_wsS RX0 112 yX0_orderOf wsX0_orderOf) := goodIn_app (goodIn_of _ (by decide +kernel)) ggX0_word_X0_orderOf
set_option maxRecDepth 20000 in
theorem ggX0_word_X0_wrongCorners : GoodIn wsX0_word wsX0_wrongCorners := goodIn_r _ [61, 62, 63, 4, 64, 65, 66, 67, 42, 43, 44, 45, 46, 47] (by decide +kernel) (by decide +kernel)
set_option maxRecDepth 20000 in
theorem gX0_word_X0_wrongCorners : GoodIn wsX0_word (va_wsS RX0 65 yX0_wrongCorners wsX0_wrongCorners) := goodIn_app (goodIn_of _ (by decide +kernel)) ggX0_word_X0_wrongCorners
set_option maxRecDepth 20000 in
theorem ggX0_word_X0_placedCorners : GoodIn wsX0_word wsX0_placedCorners := goodIn_r _ [70, 42, 43, 4, 44] (by decide +kernel) (by decide +kernel)
set_option maxRecDepth 20000 in
theorem gX0_word_X0_placedCorners : GoodIn wsX0_word (va_wsS RX0 103 yX0_placedCorners wsX0_placedCorners) := goodIn_app (goodIn_of _ (by decide +kernel)) ggX0_word_X0_placedCorners
theorem dX0_word_0 : decode cX0_word 0 = .ok (.iload_n 1, 1) := by decide +kernel
theorem dX0_word_1 : decode cX0_word 1 = .ok (.invokestatic 47, 3) := by decide +kernel
theorem dX0_word_4 : decode cX0_word 4 = .ok (.iload_n 2, 1) := by decide +kernel
theorem dX0_word_5 : decode cX0_word 5 = .ok (.iconst 4, 1) := by decide +kernel
theorem dX0_word_6 : decode cX0_word 6 = .ok (.invokestatic 83, 3) := by decide +kernel
theorem dX0_word_9 : decode cX0_word 9 = .ok (.iload_n 2, 1) := by decide +kernel
theorem dX0_word_10 : decode cX0_word 10 = .ok (.tableswitch 51 0 2 #[26, 33, 42], 26) := by decide +kernel
theorem dX0_word_36 : decode cX0_word 36 = .ok (.aload_n 0, 1) := by decide +kernel
theorem dX0_word_37 : decode cX0_word 37 = .ok (.getfield 24, 3) := by decide +kernel
theorem dX0_word_40 : decode cX0_word 40 = .ok (.iload_n 1, 1) := by decide +kernel
theorem dX0_word_41 : decode cX0_word 41 = .ok (.iaload, 1) := by decide +kernel
theorem dX0_word_42 : decode cX0_word 42 = .ok (.ireturn, 1) := by decide +kernel
theorem dX0_word_43 : decode cX0_word 43 = .ok (.aload_n 0, 1) := by decide +kernel
theorem dX0_word_44 : decode cX0_word 44 = .ok (.iload_n 1, 1) := by decide +kernel
theorem dX0_word_45 : decode cX0_word 45 = .ok (.invokevirtual 119, 3) := by decide +kernel
theorem dX0_word_48 : decode cX0_word 48 = .ok (.invokestatic 112, 3) := by decide +kernel
theorem dX0_word_51 : decode cX0_word 51 = .ok (.ireturn, 1) := by decide +kernel
theorem dX0_word_52 : decode cX0_word 52 = .ok (.aload_n 0, 1) := by decide +kernel
theorem dX0_word_53 : decode cX0_word 53 = .ok (.iload_n 1, 1) := by decide +kernel
theorem dX0_word_54 : decode cX0_word 54 = .ok (.invokevirtual 119, 3) := by decide +kernel
theorem dX0_word_57 : decode cX0_word 57 = .ok (.invokestatic 65, 3) := by decide +kernel
theorem dX0_word_60 : decode cX0_word 60 = .ok (.ireturn, 1) := by decide +kernel
theorem dX0_word_61 : decode cX0_word 61 = .ok (.bipush 8, 2) := by decide +kernel
theorem dX0_word_63 : decode cX0_word 63 = .ok (.aload_n 0, 1) := by decide +kernel
theorem dX0_word_64 : decode cX0_word 64 = .ok (.iload_n 1, 1) := by decide +kernel
theorem dX0_word_65 : decode cX0_word 65 = .ok (.invokevirtual 119, 3) := by decide +kernel
theorem dX0_word_68 : decode cX0_word 68 = .ok (.invokestatic 103, 3) := by decide +kernel
theorem dX0_word_71 : decode cX0_word 71 = .ok (.isub, 1) := by decide +kernel
theorem dX0_word_72 : decode cX0_word 72 = .ok (.ireturn, 1) := by decide +kernel
set_option maxRecDepth 20000 in
theorem ggX0_same_X0_checkWord : GoodIn wsX0_same wsX0_checkWord := goodIn_ca (goodIn_r _ [4, 5, 6] (by decide +kernel) (by decide +kernel)) (goodIn_sub (fun _ h => List.mem_cons_of_mem _ (List.mem_append_right _ h)) (by decide +kernel))
set_option maxRecDepth 20000 in
theorem gX0_same_X0_checkWord : GoodIn wsX0_same (va_wsS RX0 47 yX0_checkWord wsX0_checkWord) := goodIn_app (goodIn_of _ (by decide +kernel)) ggX0_same_X0_checkWord
set_option maxRecDepth 20000 in
theorem ggX0_same_X0_deedOf : GoodIn wsX0_same wsX0_deedOf := goodIn_r _ [10, 11, 12, 13, 14, 3, 15, 16, 17, 18, 19, 20, 21, 22, 23, 24, 25, 26, 27, 28, 29, 30, 31, 32, 33, 34, 35, 36, 37, 38, 39, 40, 41, 42, 43, 44, 45, 46, 47, 48, 49, 50, 51, 52, 53] (by decide +kernel) (by decide +kernel)
set_option maxRecDepth 20000 in
theorem gX0_same_X0_deedOf : GoodIn wsX0_same (wsV RX0 119 RX0 yX0_deedOf wsX0_deedOf) := goodIn_app (goodIn_of _ (by decide +kernel)) ggX0_same_X0_deedOf
theorem dX0_same_0 : decode cX0_same 0 = .ok (.iload_n 1, 1) := by decide +kernel
theorem dX0_same_1 : decode cX0_same 1 = .ok (.invokestatic 47, 3) := by decide +kernel
theorem dX0_same_4 : decode cX0_same 4 = .ok (.iload_n 2, 1) := by decide +kernel
theorem dX0_same_5 : decode cX0_same 5 = .ok (.invokestatic 47, 3) := by decide +kernel
theorem dX0_same_8 : decode cX0_same 8 = .ok (.aload_n 0, 1) := by decide +kernel
theorem dX0_same_9 : decode cX0_same 9 = .ok (.iload_n 1, 1) := by decide +kernel
theorem dX0_same_10 : decode cX0_same 10 = .ok (.invokevirtual 119, 3) := by decide +kernel
theorem dX0_same_13 : decode cX0_same 13 = .ok (.aload_n 0, 1) := by decide +kernel
theorem dX0_same_14 : decode cX0_same 14 = .ok (.iload_n 2, 1) := by decide +kernel
theorem dX0_same_15 : decode cX0_same 15 = .ok (.invokevirtual 119, 3) := by decide +kernel
theorem dX0_same_18 : decode cX0_same 18 = .ok (.lcmp, 1) := by decide +kernel
theorem dX0_same_19 : decode cX0_same 19 = .ok (.ifCond .ne 7, 3) := by decide +kernel
theorem dX0_same_22 : decode cX0_same 22 = .ok (.iconst 1, 1) := by decide +kernel
theorem dX0_same_23 : decode cX0_same 23 = .ok (.goto 4, 3) := by decide +kernel
theorem dX0_same_26 : decode cX0_same 26 = .ok (.iconst 0, 1) := by decide +kernel
theorem dX0_same_27 : decode cX0_same 27 = .ok (.ireturn, 1) := by decide +kernel
set_option maxRecDepth 20000 in
theorem ggX0_mixed_X0_checkWord : GoodIn wsX0_mixed wsX0_checkWord := goodIn_ca (goodIn_r _ [4, 5, 6] (by decide +kernel) (by decide +kernel)) (goodIn_sub (fun _ h => List.mem_cons_of_mem _ (List.mem_append_right _ h)) (by decide +kernel))
set_option maxRecDepth 20000 in
theorem gX0_mixed_X0_checkWord : GoodIn wsX0_mixed (va_wsS RX0 47 yX0_checkWord wsX0_checkWord) := goodIn_app (goodIn_of _ (by decide +kernel)) ggX0_mixed_X0_checkWord
set_option maxRecDepth 20000 in
theorem ggX0_mixed_X0_deedOf : GoodIn wsX0_mixed wsX0_deedOf := goodIn_r _ [10, 11, 12, 13, 14, 3, 15, 16, 17, 18, 19, 20, 21, 22, 23, 24, 25, 26, 27, 28, 29, 30, 31, 32, 33, 34, 35, 36, 37, 38, 39, 40, 41, 42, 43, 44, 45, 46, 47, 48, 49, 69, 70, 71, 72] (by decide +kernel) (by decide +kernel)
set_option maxRecDepth 20000 in
theorem gX0_mixed_X0_deedOf : GoodIn wsX0_mixed (wsV RX0 119 RX0 yX0_deedOf wsX0_deedOf) := goodIn_app (goodIn_of _ (by decide +kernel)) ggX0_mixed_X0_deedOf
set_option maxRecDepth 20000 in
theorem ggX0_mixed_X0_behindWord : GoodIn wsX0_mixed wsX0_behindWord := goodIn_r _ [15, 16, 17, 18, 19, 3, 20, 21, 22, 23, 24, 25, 26, 27, 28, 29, 30, 31, 32, 33, 34, 35, 36, 37, 38, 39, 40, 41, 42, 43, 44, 45, 46, 47, 48, 49, 69, 70, 71, 72] (by decide +kernel) (by decide +kernel)
set_option maxRecDepth 20000 in
theorem gX0_mixed_X0_behindWord : GoodIn wsX0_mixed (wsV RX0 62 RX0 yX0_behindWord wsX0_behindWord) := goodIn_app (goodIn_of _ (by decide +kernel)) ggX0_mixed_X0_behindWord
set_option maxRecDepth 20000 in
theorem ggX0_mixed_X0_behindWordRound : GoodIn wsX0_mixed wsX0_behindWordRound := goodIn_r _ [53, 16, 17, 54, 55, 3, 56, 24, 25, 26, 21, 22, 23, 57, 58, 59, 18, 19, 20, 27, 28, 29, 30, 31, 32, 33, 34, 35, 36, 37, 38, 39, 40, 41, 42, 43, 44, 45, 46, 47, 48, 49, 69, 70, 71, 72] (by decide +kernel) (by decide +kernel)
set_option maxRecDepth 20000 in
theorem gX0_mixed_X0_behindWordRound : GoodIn wsX0_mixed (wsV RX0 125 RX0 yX0_behindWordRound wsX0_behindWordRound) := goodIn_app (goodIn_of _ (by decide +kernel)) ggX0_mixed_X0_behindWordRound
set_option maxRecDepth 20000 in
theorem ggX0_mixed_X0_wrongCorners : GoodIn wsX0_mixed wsX0_wrongCorners := goodIn_r _ [62, 63, 64, 3, 65, 66, 67, 68, 39, 40, 41, 42, 43, 44] (by decide +kernel) (by decide +kernel)
set_option maxRecDepth 20000 in
theorem gX0_mixed_X0_wrongCorners : GoodIn wsX0_mixed (va_wsS RX0 65 yX0_wrongCorners wsX0_wrongCorners) := goodIn_app (goodIn_of _ (by decide +kernel)) ggX0_mixed_X0_wrongCorners
theorem dX0_mixed_0 : decode cX0_mixed 0 = .ok (.iload_n 1, 1) := by decide +kernel
theorem dX0_mixed_1 : decode cX0_mixed 1 = .ok (.invokestatic 47, 3) := by decide +kernel
theorem dX0_mixed_4 : decode cX0_mixed 4 = .ok (.iload_n 2, 1) := by decide +kernel
theorem dX0_mixed_5 : decode cX0_mixed 5 = .ok (.invokestatic 47, 3) := by decide +kernel
theorem dX0_mixed_8 : decode cX0_mixed 8 = .ok (.aload_n 0, 1) := by decide +kernel
theorem dX0_mixed_9 : decode cX0_mixed 9 = .ok (.aload_n 0, 1) := by decide +kernel
theorem dX0_mixed_10 : decode cX0_mixed 10 = .ok (.iload_n 1, 1) := by decide +kernel
theorem dX0_mixed_11 : decode cX0_mixed 11 = .ok (.invokevirtual 119, 3) := by decide +kernel
theorem dX0_mixed_14 : decode cX0_mixed 14 = .ok (.iload_n 2, 1) := by decide +kernel
theorem dX0_mixed_15 : decode cX0_mixed 15 = .ok (.invokevirtual 62, 3) := by decide +kernel
theorem dX0_mixed_18 : decode cX0_mixed 18 = .ok (.lstore_n 3, 1) := by decide +kernel
theorem dX0_mixed_19 : decode cX0_mixed 19 = .ok (.aload_n 0, 1) := by decide +kernel
theorem dX0_mixed_20 : decode cX0_mixed 20 = .ok (.aload_n 0, 1) := by decide +kernel
theorem dX0_mixed_21 : decode cX0_mixed 21 = .ok (.lload_n 3, 1) := by decide +kernel
theorem dX0_mixed_22 : decode cX0_mixed 22 = .ok (.iload_n 1, 1) := by decide +kernel
theorem dX0_mixed_23 : decode cX0_mixed 23 = .ok (.invokevirtual 125, 3) := by decide +kernel
theorem dX0_mixed_26 : decode cX0_mixed 26 = .ok (.iload_n 2, 1) := by decide +kernel
theorem dX0_mixed_27 : decode cX0_mixed 27 = .ok (.invokevirtual 125, 3) := by decide +kernel
theorem dX0_mixed_30 : decode cX0_mixed 30 = .ok (.invokestatic 65, 3) := by decide +kernel
theorem dX0_mixed_33 : decode cX0_mixed 33 = .ok (.ireturn, 1) := by decide +kernel
set_option maxRecDepth 20000 in
theorem ggX0_would_X0_checkFace : GoodIn wsX0_would wsX0_checkFace := goodIn_ca (goodIn_r _ [5, 6, 7] (by decide +kernel) (by decide +kernel)) (goodIn_sub (fun _ h => List.mem_cons_of_mem _ (List.mem_append_left _ (List.mem_append_right _ h))) (by decide +kernel))
set_option maxRecDepth 20000 in
theorem gX0_would_X0_checkFace : GoodIn wsX0_would (va_wsS RX0 28 yX0_checkFace wsX0_checkFace) := goodIn_app (goodIn_of _ (by decide +kernel)) ggX0_would_X0_checkFace
set_option maxRecDepth 20000 in
theorem ggX0_would_X0_checkQuarters : GoodIn wsX0_would wsX0_checkQuarters := goodIn_ca (goodIn_r _ [10, 11, 12] (by decide +kernel) (by decide +kernel)) (goodIn_sub (fun _ h => List.mem_cons_of_mem _ (List.mem_append_right _ h)) (by decide +kernel))
set_option maxRecDepth 20000 in
theorem gX0_would_X0_checkQuarters : GoodIn wsX0_would (va_wsS RX0 32 yX0_checkQuarters wsX0_checkQuarters) := goodIn_app (goodIn_of _ (by decide +kernel)) ggX0_would_X0_checkQuarters
set_option maxRecDepth 20000 in
theorem ggX0_would_X0_turnNumber : GoodIn wsX0_would wsX0_turnNumber := goodIn_r _ [15] (by decide +kernel) (by decide +kernel)
set_option maxRecDepth 20000 in
theorem gX0_would_X0_turnNumber : GoodIn wsX0_would (va_wsS RX0 35 yX0_turnNumber wsX0_turnNumber) := goodIn_app (goodIn_of _ (by decide +kernel)) ggX0_would_X0_turnNumber
set_option maxRecDepth 20000 in
theorem ggX0_would_X0_turned : GoodIn wsX0_would wsX0_turned := goodIn_r _ [18, 19, 20, 4, 21, 22, 23, 24, 25, 26, 27, 28, 29, 30, 31, 32, 33, 34, 35, 36, 37, 38, 39, 40, 41, 42, 43, 44, 45, 46, 47] (by decide +kernel) (by decide +kernel)
set_option maxRecDepth 20000 in
theorem gX0_would_X0_turned : GoodIn wsX0_would (va_wsS RX0 39 yX0_turned wsX0_turned) := goodIn_app (goodIn_of _ (by decide +kernel)) ggX0_would_X0_turned
set_option maxRecDepth 20000 in
theorem ggX0_would_X0_rightCorners : GoodIn wsX0_would wsX0_rightCorners := goodIn_r _ [50, 51, 52, 4, 53, 37, 38, 39, 40, 41, 42] (by decide +kernel) (by decide +kernel)
set_option maxRecDepth 20000 in
theorem gX0_would_X0_rightCorners : GoodIn wsX0_would (va_wsS RX0 43 yX0_rightCorners wsX0_rightCorners) := goodIn_app (goodIn_of _ (by decide +kernel)) ggX0_would_X0_rightCorners
theorem dX0_would_0 : decode cX0_would 0 = .ok (.iload_n 1, 1) := by decide +kernel
theorem dX0_would_1 : decode cX0_would 1 = .ok (.invokestatic 28, 3) := by decide +kernel
theorem dX0_would_4 : decode cX0_would 4 = .ok (.iload_n 2, 1) := by decide +kernel
theorem dX0_would_5 : decode cX0_would 5 = .ok (.invokestatic 32, 3) := by decide +kernel
theorem dX0_would_8 : decode cX0_would 8 = .ok (.aload_n 0, 1) := by decide +kernel
theorem dX0_would_9 : decode cX0_would 9 = .ok (.getfield 11, 3) := by decide +kernel
theorem dX0_would_12 : decode cX0_would 12 = .ok (.iload_n 1, 1) := by decide +kernel
theorem dX0_would_13 : decode cX0_would 13 = .ok (.iload_n 2, 1) := by decide +kernel
theorem dX0_would_14 : decode cX0_would 14 = .ok (.invokestatic 35, 3) := by decide +kernel
theorem dX0_would_17 : decode cX0_would 17 = .ok (.invokestatic 39, 3) := by decide +kernel
theorem dX0_would_20 : decode cX0_would 20 = .ok (.invokestatic 43, 3) := by decide +kernel
theorem dX0_would_23 : decode cX0_would 23 = .ok (.ireturn, 1) := by decide +kernel
set_option maxRecDepth 20000 in
theorem ggX0_far_X0_checkMost : GoodIn wsX0_far wsX0_checkMost := goodIn_ca (goodIn_r _ [5, 6, 7] (by decide +kernel) (by decide +kernel)) (goodIn_sub (fun _ h => List.mem_cons_of_mem _ (List.mem_append_right _ h)) (by decide +kernel))
set_option maxRecDepth 20000 in
theorem gX0_far_X0_checkMost : GoodIn wsX0_far (va_wsS RX0 128 yX0_checkMost wsX0_checkMost) := goodIn_app (goodIn_of _ (by decide +kernel)) ggX0_far_X0_checkMost
set_option maxRecDepth 20000 in
theorem ggX0_far_X0_fewestTurns : GoodIn wsX0_far wsX0_fewestTurns := goodIn_r _ [10, 11, 12, 4, 13, 14, 15, 16, 17, 18, 19, 20, 21, 22, 23, 24, 25, 26, 27, 28, 29, 30, 31, 32, 33, 34, 35, 36, 37, 38, 39, 40, 41, 42, 43, 44, 45, 46, 47, 48, 49, 50, 51, 52] (by decide +kernel) (by decide +kernel)
set_option maxRecDepth 20000 in
theorem gX0_far_X0_fewestTurns : GoodIn wsX0_far (va_wsS RX0 131 yX0_fewestTurns wsX0_fewestTurns) := goodIn_app (goodIn_of _ (by decide +kernel)) ggX0_far_X0_fewestTurns
theorem dX0_far_0 : decode cX0_far 0 = .ok (.iload_n 1, 1) := by decide +kernel
theorem dX0_far_1 : decode cX0_far 1 = .ok (.invokestatic 128, 3) := by decide +kernel
theorem dX0_far_4 : decode cX0_far 4 = .ok (.aload_n 0, 1) := by decide +kernel
theorem dX0_far_5 : decode cX0_far 5 = .ok (.getfield 11, 3) := by decide +kernel
theorem dX0_far_8 : decode cX0_far 8 = .ok (.iload_n 1, 1) := by decide +kernel
theorem dX0_far_9 : decode cX0_far 9 = .ok (.invokestatic 131, 3) := by decide +kernel
theorem dX0_far_12 : decode cX0_far 12 = .ok (.ireturn, 1) := by decide +kernel
set_option maxRecDepth 20000 in
theorem ggX0_first_X0_checkMost : GoodIn wsX0_first wsX0_checkMost := goodIn_ca (goodIn_r _ [5, 6, 7] (by decide +kernel) (by decide +kernel)) (goodIn_sub (fun _ h => List.mem_cons_of_mem _ (List.mem_append_right _ h)) (by decide +kernel))
set_option maxRecDepth 20000 in
theorem gX0_first_X0_checkMost : GoodIn wsX0_first (va_wsS RX0 128 yX0_checkMost wsX0_checkMost) := goodIn_app (goodIn_of _ (by decide +kernel)) ggX0_first_X0_checkMost
set_option maxRecDepth 20000 in
theorem ggX0_first_X0_fewestTurns : GoodIn wsX0_first wsX0_fewestTurns := goodIn_r _ [10, 11, 12, 4, 13, 14, 15, 16, 17, 18, 19, 20, 21, 22, 23, 24, 25, 26, 27, 28, 29, 30, 31, 32, 33, 34, 35, 36, 37, 38, 39, 40, 41, 42, 43, 44, 45, 46, 47, 48, 49, 50, 51, 52] (by decide +kernel) (by decide +kernel)
set_option maxRecDepth 20000 in
theorem gX0_first_X0_fewestTurns : GoodIn wsX0_first (va_wsS RX0 131 yX0_fewestTurns wsX0_fewestTurns) := goodIn_app (goodIn_of _ (by decide +kernel)) ggX0_first_X0_fewestTurns
set_option maxRecDepth 20000 in
theorem ggX0_first_X0_turned : GoodIn wsX0_first wsX0_turned := goodIn_r _ [55, 56, 57, 4, 58, 59, 60, 61, 36, 37, 38, 39, 40, 41, 42, 43, 44, 45, 46, 47, 24, 25, 26, 27, 28, 29, 48, 49, 50, 51, 52] (by decide +kernel) (by decide +kernel)
set_option maxRecDepth 20000 in
theorem gX0_first_X0_turned : GoodIn wsX0_first (va_wsS RX0 39 yX0_turned wsX0_turned) := goodIn_app (goodIn_of _ (by decide +kernel)) ggX0_first_X0_turned
set_option maxRecDepth 20000 in
theorem ggX0_first_X0_faceOf : GoodIn wsX0_first wsX0_faceOf := goodIn_r _ [61] (by decide +kernel) (by decide +kernel)
set_option maxRecDepth 20000 in
theorem gX0_first_X0_faceOf : GoodIn wsX0_first (va_wsS RX0 134 yX0_faceOf wsX0_faceOf) := goodIn_app (goodIn_of _ (by decide +kernel)) ggX0_first_X0_faceOf
set_option maxRecDepth 20000 in
theorem ggX0_first_X0_isRightWithin : GoodIn wsX0_first wsX0_isRightWithin := goodIn_r _ [13, 14, 15, 16, 4, 17, 18, 19, 20, 21, 22, 23, 24, 25, 26, 27, 28, 29, 30, 31, 32, 33, 34, 35, 36, 37, 38, 39, 40, 41, 42, 43, 44, 45, 46, 47, 48, 49, 50, 51, 52, 11, 12] (by decide +kernel) (by decide +kernel)
set_option maxRecDepth 20000 in
theorem gX0_first_X0_isRightWithin : GoodIn wsX0_first (va_wsS RX0 137 yX0_isRightWithin wsX0_isRightWithin) := goodIn_app (goodIn_of _ (by decide +kernel)) ggX0_first_X0_isRightWithin
theorem dX0_first_0 : decode cX0_first 0 = .ok (.iload_n 1, 1) := by decide +kernel
theorem dX0_first_1 : decode cX0_first 1 = .ok (.invokestatic 128, 3) := by decide +kernel
theorem dX0_first_4 : decode cX0_first 4 = .ok (.aload_n 0, 1) := by decide +kernel
theorem dX0_first_5 : decode cX0_first 5 = .ok (.getfield 11, 3) := by decide +kernel
theorem dX0_first_8 : decode cX0_first 8 = .ok (.iload_n 1, 1) := by decide +kernel
theorem dX0_first_9 : decode cX0_first 9 = .ok (.invokestatic 131, 3) := by decide +kernel
theorem dX0_first_12 : decode cX0_first 12 = .ok (.istore_n 2, 1) := by decide +kernel
theorem dX0_first_13 : decode cX0_first 13 = .ok (.iconst 0, 1) := by decide +kernel
theorem dX0_first_14 : decode cX0_first 14 = .ok (.istore_n 3, 1) := by decide +kernel
theorem dX0_first_15 : decode cX0_first 15 = .ok (.iload_n 2, 1) := by decide +kernel
theorem dX0_first_16 : decode cX0_first 16 = .ok (.ifCond .le 38, 3) := by decide +kernel
theorem dX0_first_19 : decode cX0_first 19 = .ok (.iload_n 3, 1) := by decide +kernel
theorem dX0_first_20 : decode cX0_first 20 = .ok (.bipush 9, 2) := by decide +kernel
theorem dX0_first_22 : decode cX0_first 22 = .ok (.if_icmp .ge 32, 3) := by decide +kernel
theorem dX0_first_25 : decode cX0_first 25 = .ok (.aload_n 0, 1) := by decide +kernel
theorem dX0_first_26 : decode cX0_first 26 = .ok (.getfield 11, 3) := by decide +kernel
theorem dX0_first_29 : decode cX0_first 29 = .ok (.iload_n 3, 1) := by decide +kernel
theorem dX0_first_30 : decode cX0_first 30 = .ok (.invokestatic 39, 3) := by decide +kernel
theorem dX0_first_33 : decode cX0_first 33 = .ok (.iload_n 2, 1) := by decide +kernel
theorem dX0_first_34 : decode cX0_first 34 = .ok (.iconst 1, 1) := by decide +kernel
theorem dX0_first_35 : decode cX0_first 35 = .ok (.isub, 1) := by decide +kernel
theorem dX0_first_36 : decode cX0_first 36 = .ok (.iload_n 3, 1) := by decide +kernel
theorem dX0_first_37 : decode cX0_first 37 = .ok (.invokestatic 134, 3) := by decide +kernel
theorem dX0_first_40 : decode cX0_first 40 = .ok (.invokestatic 137, 3) := by decide +kernel
theorem dX0_first_43 : decode cX0_first 43 = .ok (.ifCond .eq 5, 3) := by decide +kernel
theorem dX0_first_46 : decode cX0_first 46 = .ok (.iload_n 3, 1) := by decide +kernel
theorem dX0_first_47 : decode cX0_first 47 = .ok (.ireturn, 1) := by decide +kernel
theorem dX0_first_48 : decode cX0_first 48 = .ok (.iinc 3 1, 3) := by decide +kernel
theorem dX0_first_51 : decode cX0_first 51 = .ok (.goto (-36), 3) := by decide +kernel
theorem dX0_first_54 : decode cX0_first 54 = .ok (.iconst (-1), 1) := by decide +kernel
theorem dX0_first_55 : decode cX0_first 55 = .ok (.ireturn, 1) := by decide +kernel
set_option maxRecDepth 20000 in
theorem ggX0_shortest_X0_checkWord : GoodIn wsX0_shortest wsX0_checkWord := goodIn_ca (goodIn_r _ [4, 5, 6] (by decide +kernel) (by decide +kernel)) (goodIn_sub (fun _ h => List.mem_cons_of_mem _ (List.mem_append_left _ (List.mem_append_right _ h))) (by decide +kernel))
set_option maxRecDepth 20000 in
theorem gX0_shortest_X0_checkWord : GoodIn wsX0_shortest (va_wsS RX0 47 yX0_checkWord wsX0_checkWord) := goodIn_app (goodIn_of _ (by decide +kernel)) ggX0_shortest_X0_checkWord
set_option maxRecDepth 20000 in
theorem ggX0_shortest_X0_checkMost : GoodIn wsX0_shortest wsX0_checkMost := goodIn_ca (goodIn_r _ [9, 10, 11] (by decide +kernel) (by decide +kernel)) (goodIn_sub (fun _ h => List.mem_cons_of_mem _ (List.mem_append_right _ h)) (by decide +kernel))
set_option maxRecDepth 20000 in
theorem gX0_shortest_X0_checkMost : GoodIn wsX0_shortest (va_wsS RX0 128 yX0_checkMost wsX0_checkMost) := goodIn_app (goodIn_of _ (by decide +kernel)) ggX0_shortest_X0_checkMost
set_option maxRecDepth 20000 in
theorem ggX0_shortest_X0_deedOf : GoodIn wsX0_shortest wsX0_deedOf := goodIn_r _ [15, 16, 17, 18, 19, 3, 20, 21, 22, 23, 24, 25, 26, 27, 28, 29, 30, 31, 32, 33, 34, 35, 36, 37, 38, 39, 40, 41, 42, 43, 44, 45, 46, 47, 48, 49, 50, 51, 52, 53, 54, 76, 77, 78, 79] (by decide +kernel) (by decide +kernel)
set_option maxRecDepth 20000 in
theorem gX0_shortest_X0_deedOf : GoodIn wsX0_shortest (wsV RX0 119 RX0 yX0_deedOf wsX0_deedOf) := goodIn_app (goodIn_of _ (by decide +kernel)) ggX0_shortest_X0_deedOf
set_option maxRecDepth 20000 in
theorem ggX0_shortest_X0_fewestTurns : GoodIn wsX0_shortest wsX0_fewestTurns := goodIn_r _ [57, 58, 59, 3, 60, 16, 61, 62, 63, 64, 65, 66, 67, 68, 69, 44, 45, 46, 47, 48, 49, 70, 71, 72, 73, 74, 75, 32, 33, 34, 35, 36, 37, 38, 39, 40, 41, 42, 43, 50, 51, 52, 53, 54] (by decide +kernel) (by decide +kernel)
set_option maxRecDepth 20000 in
theorem gX0_shortest_X0_fewestTurns : GoodIn wsX0_shortest (va_wsS RX0 131 yX0_fewestTurns wsX0_fewestTurns) := goodIn_app (goodIn_of _ (by decide +kernel)) ggX0_shortest_X0_fewestTurns
theorem dX0_shortest_0 : decode cX0_shortest 0 = .ok (.iload_n 1, 1) := by decide +kernel
theorem dX0_shortest_1 : decode cX0_shortest 1 = .ok (.invokestatic 47, 3) := by decide +kernel
theorem dX0_shortest_4 : decode cX0_shortest 4 = .ok (.iload_n 2, 1) := by decide +kernel
theorem dX0_shortest_5 : decode cX0_shortest 5 = .ok (.invokestatic 128, 3) := by decide +kernel
theorem dX0_shortest_8 : decode cX0_shortest 8 = .ok (.aload_n 0, 1) := by decide +kernel
theorem dX0_shortest_9 : decode cX0_shortest 9 = .ok (.iload_n 1, 1) := by decide +kernel
theorem dX0_shortest_10 : decode cX0_shortest 10 = .ok (.invokevirtual 119, 3) := by decide +kernel
theorem dX0_shortest_13 : decode cX0_shortest 13 = .ok (.iload_n 2, 1) := by decide +kernel
theorem dX0_shortest_14 : decode cX0_shortest 14 = .ok (.invokestatic 131, 3) := by decide +kernel
theorem dX0_shortest_17 : decode cX0_shortest 17 = .ok (.ireturn, 1) := by decide +kernel
set_option maxRecDepth 20000 in
theorem ggX0_advise_X0_turned : GoodIn wsX0_advise wsX0_turned := goodIn_r _ [5, 6, 7, 4, 8, 9, 10, 11, 12, 13, 14, 15, 16, 17, 18, 19, 20, 21, 22, 23, 24, 25, 26, 27, 28, 29, 30, 31, 32, 33, 34] (by decide +kernel) (by decide +kernel)
set_option maxRecDepth 20000 in
theorem gX0_advise_X0_turned : GoodIn wsX0_advise (va_wsS RX0 39 yX0_turned wsX0_turned) := goodIn_app (goodIn_of _ (by decide +kernel)) ggX0_advise_X0_turned
set_option maxRecDepth 20000 in
theorem ggX0_advise_X0_rightCorners : GoodIn wsX0_advise wsX0_rightCorners := goodIn_r _ [37, 38, 39, 4, 40, 24, 25, 26, 27, 28, 29] (by decide +kernel) (by decide +kernel)
set_option maxRecDepth 20000 in
theorem gX0_advise_X0_rightCorners : GoodIn wsX0_advise (va_wsS RX0 43 yX0_rightCorners wsX0_rightCorners) := goodIn_app (goodIn_of _ (by decide +kernel)) ggX0_advise_X0_rightCorners
theorem dX0_advise_0 : decode cX0_advise 0 = .ok (.iconst 0, 1) := by decide +kernel
theorem dX0_advise_1 : decode cX0_advise 1 = .ok (.istore_n 1, 1) := by decide +kernel
theorem dX0_advise_2 : decode cX0_advise 2 = .ok (.iconst (-1), 1) := by decide +kernel
theorem dX0_advise_3 : decode cX0_advise 3 = .ok (.istore_n 2, 1) := by decide +kernel
theorem dX0_advise_4 : decode cX0_advise 4 = .ok (.iconst 0, 1) := by decide +kernel
theorem dX0_advise_5 : decode cX0_advise 5 = .ok (.istore_n 3, 1) := by decide +kernel
theorem dX0_advise_6 : decode cX0_advise 6 = .ok (.iload_n 3, 1) := by decide +kernel
theorem dX0_advise_7 : decode cX0_advise 7 = .ok (.bipush 9, 2) := by decide +kernel
theorem dX0_advise_9 : decode cX0_advise 9 = .ok (.if_icmp .ge 33, 3) := by decide +kernel
theorem dX0_advise_12 : decode cX0_advise 12 = .ok (.aload_n 0, 1) := by decide +kernel
theorem dX0_advise_13 : decode cX0_advise 13 = .ok (.getfield 11, 3) := by decide +kernel
theorem dX0_advise_16 : decode cX0_advise 16 = .ok (.iload_n 3, 1) := by decide +kernel
theorem dX0_advise_17 : decode cX0_advise 17 = .ok (.invokestatic 39, 3) := by decide +kernel
theorem dX0_advise_20 : decode cX0_advise 20 = .ok (.invokestatic 43, 3) := by decide +kernel
theorem dX0_advise_23 : decode cX0_advise 23 = .ok (.istore 4, 2) := by decide +kernel
theorem dX0_advise_25 : decode cX0_advise 25 = .ok (.iload 4, 2) := by decide +kernel
theorem dX0_advise_27 : decode cX0_advise 27 = .ok (.iload_n 2, 1) := by decide +kernel
theorem dX0_advise_28 : decode cX0_advise 28 = .ok (.if_icmp .le 8, 3) := by decide +kernel
theorem dX0_advise_31 : decode cX0_advise 31 = .ok (.iload_n 3, 1) := by decide +kernel
theorem dX0_advise_32 : decode cX0_advise 32 = .ok (.istore_n 1, 1) := by decide +kernel
theorem dX0_advise_33 : decode cX0_advise 33 = .ok (.iload 4, 2) := by decide +kernel
theorem dX0_advise_35 : decode cX0_advise 35 = .ok (.istore_n 2, 1) := by decide +kernel
theorem dX0_advise_36 : decode cX0_advise 36 = .ok (.iinc 3 1, 3) := by decide +kernel
theorem dX0_advise_39 : decode cX0_advise 39 = .ok (.goto (-33), 3) := by decide +kernel
theorem dX0_advise_42 : decode cX0_advise 42 = .ok (.iload_n 1, 1) := by decide +kernel
theorem dX0_advise_43 : decode cX0_advise 43 = .ok (.ireturn, 1) := by decide +kernel
set_option maxRecDepth 20000 in
theorem ggX0_digest_X0_count : GoodIn wsX0_digest wsX0_count := goodIn_ca (goodIn_r _ [9, 10, 11, 12, 13, 8, 14, 15, 16, 17, 18, 19, 20, 21, 22, 23, 24, 25, 26, 27, 28, 29, 30, 31, 32, 33, 34, 35, 36, 37, 38, 39, 40, 41, 42, 43, 44, 45, 46, 47, 48, 49, 50, 51, 52, 53, 3, 100, 101, 102, 103] (by decide +kernel) (by decide +kernel)) (goodIn_sub (fun _ h => List.mem_cons_of_mem _ (List.mem_append_right _ h)) (by decide +kernel))
set_option maxRecDepth 20000 in
theorem gX0_digest_X0_count : GoodIn wsX0_digest (wsV RX0 147 RX0 yX0_count wsX0_count) := goodIn_app (goodIn_of _ (by decide +kernel)) ggX0_digest_X0_count
set_option maxRecDepth 20000 in
theorem ggX0_digest_X0_told : GoodIn wsX0_digest wsX0_told := goodIn_ca (goodIn_r _ [57, 11, 58, 59, 8, 60, 15, 16, 12, 13, 14, 23, 24, 25, 26, 27, 28, 20, 21, 22, 100, 101, 102, 103] (by decide +kernel) (by decide +kernel)) (goodIn_sub (fun _ h => List.mem_cons_of_mem _ (List.mem_append_right _ h)) (by decide +kernel))
set_option maxRecDepth 20000 in
theorem gX0_digest_X0_told : GoodIn wsX0_digest (wsV RX0 150 RX0 yX0_told wsX0_told) := goodIn_app (goodIn_of _ (by decide +kernel)) ggX0_digest_X0_told
set_option maxRecDepth 20000 in
theorem ggX0_digest_X0_word : GoodIn wsX0_digest wsX0_word := goodIn_ca (goodIn_r _ [64, 3, 65, 66, 8, 67, 15, 16, 12, 13, 14, 68, 69, 70, 71, 41, 72, 73, 74, 75, 4, 76, 77, 78, 79, 80, 81, 82, 83, 84, 85, 86, 87, 88, 89, 90, 91, 92, 93, 94, 95, 96, 23, 24, 25, 26, 27, 28, 45, 46, 47, 48, 49, 38, 39, 40, 42, 43, 44, 97, 98, 99, 17, 18, 19, 20, 21, 22, 29, 30, 31, 100, 101, 102, 103] (by decide +kernel) (by decide +kernel)) (goodIn_sub (fun _ h => List.mem_cons_of_mem _ (List.mem_append_right _ h)) (by decide +kernel))
set_option maxRecDepth 20000 in
theorem gX0_digest_X0_word : GoodIn wsX0_digest (wsV RX0 153 RX0 yX0_word wsX0_word) := goodIn_app (goodIn_of _ (by decide +kernel)) ggX0_digest_X0_word
theorem dX0_digest_0 : decode cX0_digest 0 = .ok (.ldc2_w 143, 3) := by decide +kernel
theorem dX0_digest_3 : decode cX0_digest 3 = .ok (.lstore_n 1, 1) := by decide +kernel
theorem dX0_digest_4 : decode cX0_digest 4 = .ok (.iconst 0, 1) := by decide +kernel
theorem dX0_digest_5 : decode cX0_digest 5 = .ok (.istore_n 3, 1) := by decide +kernel
theorem dX0_digest_6 : decode cX0_digest 6 = .ok (.iload_n 3, 1) := by decide +kernel
theorem dX0_digest_7 : decode cX0_digest 7 = .ok (.bipush 7, 2) := by decide +kernel
theorem dX0_digest_9 : decode cX0_digest 9 = .ok (.if_icmp .ge 22, 3) := by decide +kernel
theorem dX0_digest_12 : decode cX0_digest 12 = .ok (.lload_n 1, 1) := by decide +kernel
theorem dX0_digest_13 : decode cX0_digest 13 = .ok (.ldc2_w 145, 3) := by decide +kernel
theorem dX0_digest_16 : decode cX0_digest 16 = .ok (.lmul, 1) := by decide +kernel
theorem dX0_digest_17 : decode cX0_digest 17 = .ok (.aload_n 0, 1) := by decide +kernel
theorem dX0_digest_18 : decode cX0_digest 18 = .ok (.iload_n 3, 1) := by decide +kernel
theorem dX0_digest_19 : decode cX0_digest 19 = .ok (.invokevirtual 147, 3) := by decide +kernel
theorem dX0_digest_22 : decode cX0_digest 22 = .ok (.i2l, 1) := by decide +kernel
theorem dX0_digest_23 : decode cX0_digest 23 = .ok (.ladd, 1) := by decide +kernel
theorem dX0_digest_24 : decode cX0_digest 24 = .ok (.lstore_n 1, 1) := by decide +kernel
theorem dX0_digest_25 : decode cX0_digest 25 = .ok (.iinc 3 1, 3) := by decide +kernel
theorem dX0_digest_28 : decode cX0_digest 28 = .ok (.goto (-22), 3) := by decide +kernel
theorem dX0_digest_31 : decode cX0_digest 31 = .ok (.iconst 0, 1) := by decide +kernel
theorem dX0_digest_32 : decode cX0_digest 32 = .ok (.istore_n 3, 1) := by decide +kernel
theorem dX0_digest_33 : decode cX0_digest 33 = .ok (.iload_n 3, 1) := by decide +kernel
theorem dX0_digest_34 : decode cX0_digest 34 = .ok (.bipush 8, 2) := by decide +kernel
theorem dX0_digest_36 : decode cX0_digest 36 = .ok (.if_icmp .ge 39, 3) := by decide +kernel
theorem dX0_digest_39 : decode cX0_digest 39 = .ok (.iconst 0, 1) := by decide +kernel
theorem dX0_digest_40 : decode cX0_digest 40 = .ok (.istore 4, 2) := by decide +kernel
theorem dX0_digest_42 : decode cX0_digest 42 = .ok (.iload 4, 2) := by decide +kernel
theorem dX0_digest_44 : decode cX0_digest 44 = .ok (.iconst 3, 1) := by decide +kernel
theorem dX0_digest_45 : decode cX0_digest 45 = .ok (.if_icmp .ge 24, 3) := by decide +kernel
theorem dX0_digest_48 : decode cX0_digest 48 = .ok (.lload_n 1, 1) := by decide +kernel
theorem dX0_digest_49 : decode cX0_digest 49 = .ok (.ldc2_w 145, 3) := by decide +kernel
theorem dX0_digest_52 : decode cX0_digest 52 = .ok (.lmul, 1) := by decide +kernel
theorem dX0_digest_53 : decode cX0_digest 53 = .ok (.aload_n 0, 1) := by decide +kernel
theorem dX0_digest_54 : decode cX0_digest 54 = .ok (.iload_n 3, 1) := by decide +kernel
theorem dX0_digest_55 : decode cX0_digest 55 = .ok (.iload 4, 2) := by decide +kernel
theorem dX0_digest_57 : decode cX0_digest 57 = .ok (.invokevirtual 150, 3) := by decide +kernel
theorem dX0_digest_60 : decode cX0_digest 60 = .ok (.i2l, 1) := by decide +kernel
theorem dX0_digest_61 : decode cX0_digest 61 = .ok (.ladd, 1) := by decide +kernel
theorem dX0_digest_62 : decode cX0_digest 62 = .ok (.lstore_n 1, 1) := by decide +kernel
theorem dX0_digest_63 : decode cX0_digest 63 = .ok (.iinc 4 1, 3) := by decide +kernel
theorem dX0_digest_66 : decode cX0_digest 66 = .ok (.goto (-24), 3) := by decide +kernel
theorem dX0_digest_69 : decode cX0_digest 69 = .ok (.iinc 3 1, 3) := by decide +kernel
theorem dX0_digest_72 : decode cX0_digest 72 = .ok (.goto (-39), 3) := by decide +kernel
theorem dX0_digest_75 : decode cX0_digest 75 = .ok (.iconst 0, 1) := by decide +kernel
theorem dX0_digest_76 : decode cX0_digest 76 = .ok (.istore_n 3, 1) := by decide +kernel
theorem dX0_digest_77 : decode cX0_digest 77 = .ok (.iload_n 3, 1) := by decide +kernel
theorem dX0_digest_78 : decode cX0_digest 78 = .ok (.iconst 5, 1) := by decide +kernel
theorem dX0_digest_79 : decode cX0_digest 79 = .ok (.if_icmp .ge 76, 3) := by decide +kernel
theorem dX0_digest_82 : decode cX0_digest 82 = .ok (.iconst 0, 1) := by decide +kernel
theorem dX0_digest_83 : decode cX0_digest 83 = .ok (.istore 4, 2) := by decide +kernel
theorem dX0_digest_85 : decode cX0_digest 85 = .ok (.iload 4, 2) := by decide +kernel
theorem dX0_digest_87 : decode cX0_digest 87 = .ok (.iconst 4, 1) := by decide +kernel
theorem dX0_digest_88 : decode cX0_digest 88 = .ok (.if_icmp .ge 24, 3) := by decide +kernel
theorem dX0_digest_91 : decode cX0_digest 91 = .ok (.lload_n 1, 1) := by decide +kernel
theorem dX0_digest_92 : decode cX0_digest 92 = .ok (.ldc2_w 145, 3) := by decide +kernel
theorem dX0_digest_95 : decode cX0_digest 95 = .ok (.lmul, 1) := by decide +kernel
theorem dX0_digest_96 : decode cX0_digest 96 = .ok (.aload_n 0, 1) := by decide +kernel
theorem dX0_digest_97 : decode cX0_digest 97 = .ok (.iload_n 3, 1) := by decide +kernel
theorem dX0_digest_98 : decode cX0_digest 98 = .ok (.iload 4, 2) := by decide +kernel
theorem dX0_digest_100 : decode cX0_digest 100 = .ok (.invokevirtual 153, 3) := by decide +kernel
theorem dX0_digest_103 : decode cX0_digest 103 = .ok (.i2l, 1) := by decide +kernel
theorem dX0_digest_104 : decode cX0_digest 104 = .ok (.ladd, 1) := by decide +kernel
theorem dX0_digest_105 : decode cX0_digest 105 = .ok (.lstore_n 1, 1) := by decide +kernel
theorem dX0_digest_106 : decode cX0_digest 106 = .ok (.iinc 4 1, 3) := by decide +kernel
theorem dX0_digest_109 : decode cX0_digest 109 = .ok (.goto (-24), 3) := by decide +kernel
theorem dX0_digest_112 : decode cX0_digest 112 = .ok (.iconst 0, 1) := by decide +kernel
theorem dX0_digest_113 : decode cX0_digest 113 = .ok (.istore 4, 2) := by decide +kernel
theorem dX0_digest_115 : decode cX0_digest 115 = .ok (.iload 4, 2) := by decide +kernel
theorem dX0_digest_117 : decode cX0_digest 117 = .ok (.aload_n 0, 1) := by decide +kernel
theorem dX0_digest_118 : decode cX0_digest 118 = .ok (.getfield 24, 3) := by decide +kernel
theorem dX0_digest_121 : decode cX0_digest 121 = .ok (.iload_n 3, 1) := by decide +kernel
theorem dX0_digest_122 : decode cX0_digest 122 = .ok (.iaload, 1) := by decide +kernel
theorem dX0_digest_123 : decode cX0_digest 123 = .ok (.if_icmp .ge 26, 3) := by decide +kernel
theorem dX0_digest_126 : decode cX0_digest 126 = .ok (.lload_n 1, 1) := by decide +kernel
theorem dX0_digest_127 : decode cX0_digest 127 = .ok (.ldc2_w 145, 3) := by decide +kernel
theorem dX0_digest_130 : decode cX0_digest 130 = .ok (.lmul, 1) := by decide +kernel
theorem dX0_digest_131 : decode cX0_digest 131 = .ok (.aload_n 0, 1) := by decide +kernel
theorem dX0_digest_132 : decode cX0_digest 132 = .ok (.getfield 21, 3) := by decide +kernel
theorem dX0_digest_135 : decode cX0_digest 135 = .ok (.iload_n 3, 1) := by decide +kernel
theorem dX0_digest_136 : decode cX0_digest 136 = .ok (.aaload, 1) := by decide +kernel
theorem dX0_digest_137 : decode cX0_digest 137 = .ok (.iload 4, 2) := by decide +kernel
theorem dX0_digest_139 : decode cX0_digest 139 = .ok (.iaload, 1) := by decide +kernel
theorem dX0_digest_140 : decode cX0_digest 140 = .ok (.i2l, 1) := by decide +kernel
theorem dX0_digest_141 : decode cX0_digest 141 = .ok (.ladd, 1) := by decide +kernel
theorem dX0_digest_142 : decode cX0_digest 142 = .ok (.lstore_n 1, 1) := by decide +kernel
theorem dX0_digest_143 : decode cX0_digest 143 = .ok (.iinc 4 1, 3) := by decide +kernel
theorem dX0_digest_146 : decode cX0_digest 146 = .ok (.goto (-31), 3) := by decide +kernel
theorem dX0_digest_149 : decode cX0_digest 149 = .ok (.iinc 3 1, 3) := by decide +kernel
theorem dX0_digest_152 : decode cX0_digest 152 = .ok (.goto (-75), 3) := by decide +kernel
theorem dX0_digest_155 : decode cX0_digest 155 = .ok (.lload_n 1, 1) := by decide +kernel
theorem dX0_digest_156 : decode cX0_digest 156 = .ok (.lreturn, 1) := by decide +kernel
theorem dX0_checkFace_0 : decode cX0_checkFace 0 = .ok (.iload_n 0, 1) := by decide +kernel
theorem dX0_checkFace_1 : decode cX0_checkFace 1 = .ok (.ifCond .lt 8, 3) := by decide +kernel
theorem dX0_checkFace_4 : decode cX0_checkFace 4 = .ok (.iload_n 0, 1) := by decide +kernel
theorem dX0_checkFace_5 : decode cX0_checkFace 5 = .ok (.iconst 3, 1) := by decide +kernel
theorem dX0_checkFace_6 : decode cX0_checkFace 6 = .ok (.if_icmp .lt 13, 3) := by decide +kernel
theorem dX0_checkFace_9 : decode cX0_checkFace 9 = .ok (.new 98, 3) := by decide +kernel
theorem dX0_checkFace_12 : decode cX0_checkFace 12 = .ok (.dup, 1) := by decide +kernel
theorem dX0_checkFace_13 : decode cX0_checkFace 13 = .ok (.ldc 156, 2) := by decide +kernel
theorem dX0_checkFace_15 : decode cX0_checkFace 15 = .ok (.invokespecial 102, 3) := by decide +kernel
theorem dX0_checkFace_18 : decode cX0_checkFace 18 = .ok (.athrow, 1) := by decide +kernel
theorem dX0_checkFace_19 : decode cX0_checkFace 19 = .ok (.return_, 1) := by decide +kernel
theorem dX0_checkQuarters_0 : decode cX0_checkQuarters 0 = .ok (.iload_n 0, 1) := by decide +kernel
theorem dX0_checkQuarters_1 : decode cX0_checkQuarters 1 = .ok (.iconst 1, 1) := by decide +kernel
theorem dX0_checkQuarters_2 : decode cX0_checkQuarters 2 = .ok (.if_icmp .lt 8, 3) := by decide +kernel
theorem dX0_checkQuarters_5 : decode cX0_checkQuarters 5 = .ok (.iload_n 0, 1) := by decide +kernel
theorem dX0_checkQuarters_6 : decode cX0_checkQuarters 6 = .ok (.iconst 4, 1) := by decide +kernel
theorem dX0_checkQuarters_7 : decode cX0_checkQuarters 7 = .ok (.if_icmp .lt 13, 3) := by decide +kernel
theorem dX0_checkQuarters_10 : decode cX0_checkQuarters 10 = .ok (.new 50, 3) := by decide +kernel
theorem dX0_checkQuarters_13 : decode cX0_checkQuarters 13 = .ok (.dup, 1) := by decide +kernel
theorem dX0_checkQuarters_14 : decode cX0_checkQuarters 14 = .ok (.ldc 158, 2) := by decide +kernel
theorem dX0_checkQuarters_16 : decode cX0_checkQuarters 16 = .ok (.invokespecial 54, 3) := by decide +kernel
theorem dX0_checkQuarters_19 : decode cX0_checkQuarters 19 = .ok (.athrow, 1) := by decide +kernel
theorem dX0_checkQuarters_20 : decode cX0_checkQuarters 20 = .ok (.return_, 1) := by decide +kernel
theorem dX0_checkWord_0 : decode cX0_checkWord 0 = .ok (.iload_n 0, 1) := by decide +kernel
theorem dX0_checkWord_1 : decode cX0_checkWord 1 = .ok (.ifCond .lt 8, 3) := by decide +kernel
theorem dX0_checkWord_4 : decode cX0_checkWord 4 = .ok (.iload_n 0, 1) := by decide +kernel
theorem dX0_checkWord_5 : decode cX0_checkWord 5 = .ok (.iconst 5, 1) := by decide +kernel
theorem dX0_checkWord_6 : decode cX0_checkWord 6 = .ok (.if_icmp .lt 13, 3) := by decide +kernel
theorem dX0_checkWord_9 : decode cX0_checkWord 9 = .ok (.new 98, 3) := by decide +kernel
theorem dX0_checkWord_12 : decode cX0_checkWord 12 = .ok (.dup, 1) := by decide +kernel
theorem dX0_checkWord_13 : decode cX0_checkWord 13 = .ok (.ldc 160, 2) := by decide +kernel
theorem dX0_checkWord_15 : decode cX0_checkWord 15 = .ok (.invokespecial 102, 3) := by decide +kernel
theorem dX0_checkWord_18 : decode cX0_checkWord 18 = .ok (.athrow, 1) := by decide +kernel
theorem dX0_checkWord_19 : decode cX0_checkWord 19 = .ok (.return_, 1) := by decide +kernel
theorem dX0_checkPlace_0 : decode cX0_checkPlace 0 = .ok (.iload_n 0, 1) := by decide +kernel
theorem dX0_checkPlace_1 : decode cX0_checkPlace 1 = .ok (.ifCond .lt 9, 3) := by decide +kernel
theorem dX0_checkPlace_4 : decode cX0_checkPlace 4 = .ok (.iload_n 0, 1) := by decide +kernel
theorem dX0_checkPlace_5 : decode cX0_checkPlace 5 = .ok (.bipush 8, 2) := by decide +kernel
theorem dX0_checkPlace_7 : decode cX0_checkPlace 7 = .ok (.if_icmp .lt 13, 3) := by decide +kernel
theorem dX0_checkPlace_10 : decode cX0_checkPlace 10 = .ok (.new 98, 3) := by decide +kernel
theorem dX0_checkPlace_13 : decode cX0_checkPlace 13 = .ok (.dup, 1) := by decide +kernel
theorem dX0_checkPlace_14 : decode cX0_checkPlace 14 = .ok (.ldc 162, 2) := by decide +kernel
theorem dX0_checkPlace_16 : decode cX0_checkPlace 16 = .ok (.invokespecial 102, 3) := by decide +kernel
theorem dX0_checkPlace_19 : decode cX0_checkPlace 19 = .ok (.athrow, 1) := by decide +kernel
theorem dX0_checkPlace_20 : decode cX0_checkPlace 20 = .ok (.return_, 1) := by decide +kernel
theorem dX0_checkWhat_0 : decode cX0_checkWhat 0 = .ok (.iload_n 0, 1) := by decide +kernel
theorem dX0_checkWhat_1 : decode cX0_checkWhat 1 = .ok (.ifCond .lt 8, 3) := by decide +kernel
theorem dX0_checkWhat_4 : decode cX0_checkWhat 4 = .ok (.iload_n 0, 1) := by decide +kernel
theorem dX0_checkWhat_5 : decode cX0_checkWhat 5 = .ok (.iload_n 1, 1) := by decide +kernel
theorem dX0_checkWhat_6 : decode cX0_checkWhat 6 = .ok (.if_icmp .lt 13, 3) := by decide +kernel
theorem dX0_checkWhat_9 : decode cX0_checkWhat 9 = .ok (.new 98, 3) := by decide +kernel
theorem dX0_checkWhat_12 : decode cX0_checkWhat 12 = .ok (.dup, 1) := by decide +kernel
theorem dX0_checkWhat_13 : decode cX0_checkWhat 13 = .ok (.ldc 164, 2) := by decide +kernel
theorem dX0_checkWhat_15 : decode cX0_checkWhat 15 = .ok (.invokespecial 102, 3) := by decide +kernel
theorem dX0_checkWhat_18 : decode cX0_checkWhat 18 = .ok (.athrow, 1) := by decide +kernel
theorem dX0_checkWhat_19 : decode cX0_checkWhat 19 = .ok (.return_, 1) := by decide +kernel
theorem dX0_checkMost_0 : decode cX0_checkMost 0 = .ok (.iload_n 0, 1) := by decide +kernel
theorem dX0_checkMost_1 : decode cX0_checkMost 1 = .ok (.ifCond .lt 8, 3) := by decide +kernel
theorem dX0_checkMost_4 : decode cX0_checkMost 4 = .ok (.iload_n 0, 1) := by decide +kernel
theorem dX0_checkMost_5 : decode cX0_checkMost 5 = .ok (.iconst 5, 1) := by decide +kernel
theorem dX0_checkMost_6 : decode cX0_checkMost 6 = .ok (.if_icmp .le 13, 3) := by decide +kernel
theorem dX0_checkMost_9 : decode cX0_checkMost 9 = .ok (.new 50, 3) := by decide +kernel
theorem dX0_checkMost_12 : decode cX0_checkMost 12 = .ok (.dup, 1) := by decide +kernel
theorem dX0_checkMost_13 : decode cX0_checkMost 13 = .ok (.ldc 166, 2) := by decide +kernel
theorem dX0_checkMost_15 : decode cX0_checkMost 15 = .ok (.invokespecial 54, 3) := by decide +kernel
theorem dX0_checkMost_18 : decode cX0_checkMost 18 = .ok (.athrow, 1) := by decide +kernel
theorem dX0_checkMost_19 : decode cX0_checkMost 19 = .ok (.return_, 1) := by decide +kernel
theorem dX0_turnNumber_0 : decode cX0_turnNumber 0 = .ok (.iconst 3, 1) := by decide +kernel
theorem dX0_turnNumber_1 : decode cX0_turnNumber 1 = .ok (.iload_n 0, 1) := by decide +kernel
theorem dX0_turnNumber_2 : decode cX0_turnNumber 2 = .ok (.imul, 1) := by decide +kernel
theorem dX0_turnNumber_3 : decode cX0_turnNumber 3 = .ok (.iload_n 1, 1) := by decide +kernel
theorem dX0_turnNumber_4 : decode cX0_turnNumber 4 = .ok (.iadd, 1) := by decide +kernel
theorem dX0_turnNumber_5 : decode cX0_turnNumber 5 = .ok (.iconst 1, 1) := by decide +kernel
theorem dX0_turnNumber_6 : decode cX0_turnNumber 6 = .ok (.isub, 1) := by decide +kernel
theorem dX0_turnNumber_7 : decode cX0_turnNumber 7 = .ok (.ireturn, 1) := by decide +kernel
theorem dX0_faceOf_0 : decode cX0_faceOf 0 = .ok (.iload_n 0, 1) := by decide +kernel
theorem dX0_faceOf_1 : decode cX0_faceOf 1 = .ok (.iconst 3, 1) := by decide +kernel
theorem dX0_faceOf_2 : decode cX0_faceOf 2 = .ok (.idiv, 1) := by decide +kernel
theorem dX0_faceOf_3 : decode cX0_faceOf 3 = .ok (.ireturn, 1) := by decide +kernel
theorem dX0_quartersOf_0 : decode cX0_quartersOf 0 = .ok (.iload_n 0, 1) := by decide +kernel
theorem dX0_quartersOf_1 : decode cX0_quartersOf 1 = .ok (.iconst 3, 1) := by decide +kernel
theorem dX0_quartersOf_2 : decode cX0_quartersOf 2 = .ok (.irem, 1) := by decide +kernel
theorem dX0_quartersOf_3 : decode cX0_quartersOf 3 = .ok (.iconst 1, 1) := by decide +kernel
theorem dX0_quartersOf_4 : decode cX0_quartersOf 4 = .ok (.iadd, 1) := by decide +kernel
theorem dX0_quartersOf_5 : decode cX0_quartersOf 5 = .ok (.ireturn, 1) := by decide +kernel
set_option maxRecDepth 20000 in
theorem ggX0_turnedBack_X0_faceOf : GoodIn wsX0_turnedBack wsX0_faceOf := goodIn_r _ [4] (by decide +kernel) (by decide +kernel)
set_option maxRecDepth 20000 in
theorem gX0_turnedBack_X0_faceOf : GoodIn wsX0_turnedBack (va_wsS RX0 134 yX0_faceOf wsX0_faceOf) := goodIn_app (goodIn_of _ (by decide +kernel)) ggX0_turnedBack_X0_faceOf
set_option maxRecDepth 20000 in
theorem ggX0_turnedBack_X0_quartersOf : GoodIn wsX0_turnedBack wsX0_quartersOf := goodIn_r _ [7] (by decide +kernel) (by decide +kernel)
set_option maxRecDepth 20000 in
theorem gX0_turnedBack_X0_quartersOf : GoodIn wsX0_turnedBack (va_wsS RX0 168 yX0_quartersOf wsX0_quartersOf) := goodIn_app (goodIn_of _ (by decide +kernel)) ggX0_turnedBack_X0_quartersOf
set_option maxRecDepth 20000 in
theorem ggX0_turnedBack_X0_turnNumber : GoodIn wsX0_turnedBack wsX0_turnNumber := goodIn_r _ [10] (by decide +kernel) (by decide +kernel)
set_option maxRecDepth 20000 in
theorem gX0_turnedBack_X0_turnNumber : GoodIn wsX0_turnedBack (va_wsS RX0 35 yX0_turnNumber wsX0_turnNumber) := goodIn_app (goodIn_of _ (by decide +kernel)) ggX0_turnedBack_X0_turnNumber
theorem dX0_turnedBack_0 : decode cX0_turnedBack 0 = .ok (.iload_n 0, 1) := by decide +kernel
theorem dX0_turnedBack_1 : decode cX0_turnedBack 1 = .ok (.invokestatic 134, 3) := by decide +kernel
theorem dX0_turnedBack_4 : decode cX0_turnedBack 4 = .ok (.iconst 4, 1) := by decide +kernel
theorem dX0_turnedBack_5 : decode cX0_turnedBack 5 = .ok (.iload_n 0, 1) := by decide +kernel
theorem dX0_turnedBack_6 : decode cX0_turnedBack 6 = .ok (.invokestatic 168, 3) := by decide +kernel
theorem dX0_turnedBack_9 : decode cX0_turnedBack 9 = .ok (.isub, 1) := by decide +kernel
theorem dX0_turnedBack_10 : decode cX0_turnedBack 10 = .ok (.invokestatic 35, 3) := by decide +kernel
theorem dX0_turnedBack_13 : decode cX0_turnedBack 13 = .ok (.ireturn, 1) := by decide +kernel
set_option maxRecDepth 20000 in
theorem ggX0_keep_X0_faceOf : GoodIn wsX0_keep wsX0_faceOf := goodIn_r _ [4] (by decide +kernel) (by decide +kernel)
set_option maxRecDepth 20000 in
theorem gX0_keep_X0_faceOf : GoodIn wsX0_keep (va_wsS RX0 134 yX0_faceOf wsX0_faceOf) := goodIn_app (goodIn_of _ (by decide +kernel)) ggX0_keep_X0_faceOf
set_option maxRecDepth 20000 in
theorem ggX0_keep_X0_quartersOf : GoodIn wsX0_keep wsX0_quartersOf := goodIn_r _ [7] (by decide +kernel) (by decide +kernel)
set_option maxRecDepth 20000 in
theorem gX0_keep_X0_quartersOf : GoodIn wsX0_keep (va_wsS RX0 168 yX0_quartersOf wsX0_quartersOf) := goodIn_app (goodIn_of _ (by decide +kernel)) ggX0_keep_X0_quartersOf
set_option maxRecDepth 20000 in
theorem ggX0_keep_X0_turnNumber : GoodIn wsX0_keep wsX0_turnNumber := goodIn_r _ [10] (by decide +kernel) (by decide +kernel)
set_option maxRecDepth 20000 in
theorem gX0_keep_X0_turnNumber : GoodIn wsX0_keep (va_wsS RX0 35 yX0_turnNumber wsX0_turnNumber) := goodIn_app (goodIn_of _ (by decide +kernel)) ggX0_keep_X0_turnNumber
theorem dX0_keep_0 : decode cX0_keep 0 = .ok (.iload_n 1, 1) := by decide +kernel
theorem dX0_keep_1 : decode cX0_keep 1 = .ok (.ifCond .eq 18, 3) := by decide +kernel
theorem dX0_keep_4 : decode cX0_keep 4 = .ok (.aload_n 0, 1) := by decide +kernel
theorem dX0_keep_5 : decode cX0_keep 5 = .ok (.iload_n 1, 1) := by decide +kernel
theorem dX0_keep_6 : decode cX0_keep 6 = .ok (.iconst 1, 1) := by decide +kernel
theorem dX0_keep_7 : decode cX0_keep 7 = .ok (.isub, 1) := by decide +kernel
theorem dX0_keep_8 : decode cX0_keep 8 = .ok (.iaload, 1) := by decide +kernel
theorem dX0_keep_9 : decode cX0_keep 9 = .ok (.invokestatic 134, 3) := by decide +kernel
theorem dX0_keep_12 : decode cX0_keep 12 = .ok (.iload_n 2, 1) := by decide +kernel
theorem dX0_keep_13 : decode cX0_keep 13 = .ok (.invokestatic 134, 3) := by decide +kernel
theorem dX0_keep_16 : decode cX0_keep 16 = .ok (.if_icmp .eq 11, 3) := by decide +kernel
theorem dX0_keep_19 : decode cX0_keep 19 = .ok (.aload_n 0, 1) := by decide +kernel
theorem dX0_keep_20 : decode cX0_keep 20 = .ok (.iload_n 1, 1) := by decide +kernel
theorem dX0_keep_21 : decode cX0_keep 21 = .ok (.iload_n 2, 1) := by decide +kernel
theorem dX0_keep_22 : decode cX0_keep 22 = .ok (.iastore, 1) := by decide +kernel
theorem dX0_keep_23 : decode cX0_keep 23 = .ok (.iload_n 1, 1) := by decide +kernel
theorem dX0_keep_24 : decode cX0_keep 24 = .ok (.iconst 1, 1) := by decide +kernel
theorem dX0_keep_25 : decode cX0_keep 25 = .ok (.iadd, 1) := by decide +kernel
theorem dX0_keep_26 : decode cX0_keep 26 = .ok (.ireturn, 1) := by decide +kernel
theorem dX0_keep_27 : decode cX0_keep 27 = .ok (.aload_n 0, 1) := by decide +kernel
theorem dX0_keep_28 : decode cX0_keep 28 = .ok (.iload_n 1, 1) := by decide +kernel
theorem dX0_keep_29 : decode cX0_keep 29 = .ok (.iconst 1, 1) := by decide +kernel
theorem dX0_keep_30 : decode cX0_keep 30 = .ok (.isub, 1) := by decide +kernel
theorem dX0_keep_31 : decode cX0_keep 31 = .ok (.iaload, 1) := by decide +kernel
theorem dX0_keep_32 : decode cX0_keep 32 = .ok (.invokestatic 168, 3) := by decide +kernel
theorem dX0_keep_35 : decode cX0_keep 35 = .ok (.iload_n 2, 1) := by decide +kernel
theorem dX0_keep_36 : decode cX0_keep 36 = .ok (.invokestatic 168, 3) := by decide +kernel
theorem dX0_keep_39 : decode cX0_keep 39 = .ok (.iadd, 1) := by decide +kernel
theorem dX0_keep_40 : decode cX0_keep 40 = .ok (.iconst 4, 1) := by decide +kernel
theorem dX0_keep_41 : decode cX0_keep 41 = .ok (.irem, 1) := by decide +kernel
theorem dX0_keep_42 : decode cX0_keep 42 = .ok (.istore_n 3, 1) := by decide +kernel
theorem dX0_keep_43 : decode cX0_keep 43 = .ok (.iload_n 3, 1) := by decide +kernel
theorem dX0_keep_44 : decode cX0_keep 44 = .ok (.ifCond .ne 7, 3) := by decide +kernel
theorem dX0_keep_47 : decode cX0_keep 47 = .ok (.iload_n 1, 1) := by decide +kernel
theorem dX0_keep_48 : decode cX0_keep 48 = .ok (.iconst 1, 1) := by decide +kernel
theorem dX0_keep_49 : decode cX0_keep 49 = .ok (.isub, 1) := by decide +kernel
theorem dX0_keep_50 : decode cX0_keep 50 = .ok (.ireturn, 1) := by decide +kernel
theorem dX0_keep_51 : decode cX0_keep 51 = .ok (.aload_n 0, 1) := by decide +kernel
theorem dX0_keep_52 : decode cX0_keep 52 = .ok (.iload_n 1, 1) := by decide +kernel
theorem dX0_keep_53 : decode cX0_keep 53 = .ok (.iconst 1, 1) := by decide +kernel
theorem dX0_keep_54 : decode cX0_keep 54 = .ok (.isub, 1) := by decide +kernel
theorem dX0_keep_55 : decode cX0_keep 55 = .ok (.iload_n 2, 1) := by decide +kernel
theorem dX0_keep_56 : decode cX0_keep 56 = .ok (.invokestatic 134, 3) := by decide +kernel
theorem dX0_keep_59 : decode cX0_keep 59 = .ok (.iload_n 3, 1) := by decide +kernel
theorem dX0_keep_60 : decode cX0_keep 60 = .ok (.invokestatic 35, 3) := by decide +kernel
theorem dX0_keep_63 : decode cX0_keep 63 = .ok (.iastore, 1) := by decide +kernel
theorem dX0_keep_64 : decode cX0_keep 64 = .ok (.iload_n 1, 1) := by decide +kernel
theorem dX0_keep_65 : decode cX0_keep 65 = .ok (.ireturn, 1) := by decide +kernel
set_option maxRecDepth 20000 in
theorem ggX0_deedOf_X0_behindWord : GoodIn wsX0_deedOf wsX0_behindWord := goodIn_r _ [6, 7, 8, 9, 10, 5, 11, 12, 13, 14, 15, 16, 17, 18, 19, 20, 21, 22, 23, 24, 25, 26, 27, 28, 29, 30, 31, 32, 33, 34, 35, 36, 37, 38, 39, 40, 41, 42, 43, 44] (by decide +kernel) (by decide +kernel)
set_option maxRecDepth 20000 in
theorem gX0_deedOf_X0_behindWord : GoodIn wsX0_deedOf (wsV RX0 62 RX0 yX0_behindWord wsX0_behindWord) := goodIn_app (goodIn_of _ (by decide +kernel)) ggX0_deedOf_X0_behindWord
theorem dX0_deedOf_0 : decode cX0_deedOf 0 = .ok (.aload_n 0, 1) := by decide +kernel
theorem dX0_deedOf_1 : decode cX0_deedOf 1 = .ok (.ldc2_w 9, 3) := by decide +kernel
theorem dX0_deedOf_4 : decode cX0_deedOf 4 = .ok (.iload_n 1, 1) := by decide +kernel
theorem dX0_deedOf_5 : decode cX0_deedOf 5 = .ok (.invokevirtual 62, 3) := by decide +kernel
theorem dX0_deedOf_8 : decode cX0_deedOf 8 = .ok (.lreturn, 1) := by decide +kernel
set_option maxRecDepth 20000 in
theorem ggX0_behindWord_X0_turned : GoodIn wsX0_behindWord wsX0_turned := goodIn_r _ [6, 7, 8, 5, 9, 10, 11, 12, 13, 14, 15, 16, 17, 18, 19, 20, 21, 22, 23, 24, 25, 26, 27, 28, 29, 30, 31, 32, 33, 34, 35] (by decide +kernel) (by decide +kernel)
set_option maxRecDepth 20000 in
theorem gX0_behindWord_X0_turned : GoodIn wsX0_behindWord (va_wsS RX0 39 yX0_turned wsX0_turned) := goodIn_app (goodIn_of _ (by decide +kernel)) ggX0_behindWord_X0_turned
theorem dX0_behindWord_0 : decode cX0_behindWord 0 = .ok (.lload_n 1, 1) := by decide +kernel
theorem dX0_behindWord_1 : decode cX0_behindWord 1 = .ok (.lstore 4, 2) := by decide +kernel
theorem dX0_behindWord_3 : decode cX0_behindWord 3 = .ok (.iconst 0, 1) := by decide +kernel
theorem dX0_behindWord_4 : decode cX0_behindWord 4 = .ok (.istore 6, 2) := by decide +kernel
theorem dX0_behindWord_6 : decode cX0_behindWord 6 = .ok (.iload 6, 2) := by decide +kernel
theorem dX0_behindWord_8 : decode cX0_behindWord 8 = .ok (.aload_n 0, 1) := by decide +kernel
theorem dX0_behindWord_9 : decode cX0_behindWord 9 = .ok (.getfield 24, 3) := by decide +kernel
theorem dX0_behindWord_12 : decode cX0_behindWord 12 = .ok (.iload_n 3, 1) := by decide +kernel
theorem dX0_behindWord_13 : decode cX0_behindWord 13 = .ok (.iaload, 1) := by decide +kernel
theorem dX0_behindWord_14 : decode cX0_behindWord 14 = .ok (.if_icmp .ge 25, 3) := by decide +kernel
theorem dX0_behindWord_17 : decode cX0_behindWord 17 = .ok (.lload 4, 2) := by decide +kernel
theorem dX0_behindWord_19 : decode cX0_behindWord 19 = .ok (.aload_n 0, 1) := by decide +kernel
theorem dX0_behindWord_20 : decode cX0_behindWord 20 = .ok (.getfield 21, 3) := by decide +kernel
theorem dX0_behindWord_23 : decode cX0_behindWord 23 = .ok (.iload_n 3, 1) := by decide +kernel
theorem dX0_behindWord_24 : decode cX0_behindWord 24 = .ok (.aaload, 1) := by decide +kernel
theorem dX0_behindWord_25 : decode cX0_behindWord 25 = .ok (.iload 6, 2) := by decide +kernel
theorem dX0_behindWord_27 : decode cX0_behindWord 27 = .ok (.iaload, 1) := by decide +kernel
theorem dX0_behindWord_28 : decode cX0_behindWord 28 = .ok (.invokestatic 39, 3) := by decide +kernel
theorem dX0_behindWord_31 : decode cX0_behindWord 31 = .ok (.lstore 4, 2) := by decide +kernel
theorem dX0_behindWord_33 : decode cX0_behindWord 33 = .ok (.iinc 6 1, 3) := by decide +kernel
theorem dX0_behindWord_36 : decode cX0_behindWord 36 = .ok (.goto (-30), 3) := by decide +kernel
theorem dX0_behindWord_39 : decode cX0_behindWord 39 = .ok (.lload 4, 2) := by decide +kernel
theorem dX0_behindWord_41 : decode cX0_behindWord 41 = .ok (.lreturn, 1) := by decide +kernel
set_option maxRecDepth 20000 in
theorem ggX0_behindWordRound_X0_turnedBack : GoodIn wsX0_behindWordRound wsX0_turnedBack := goodIn_r _ [6, 7, 8, 5, 9, 10, 11, 12, 13, 14, 15] (by decide +kernel) (by decide +kernel)
set_option maxRecDepth 20000 in
theorem gX0_behindWordRound_X0_turnedBack : GoodIn wsX0_behindWordRound (va_wsS RX0 70 yX0_turnedBack wsX0_turnedBack) := goodIn_app (goodIn_of _ (by decide +kernel)) ggX0_behindWordRound_X0_turnedBack
set_option maxRecDepth 20000 in
theorem ggX0_behindWordRound_X0_turned : GoodIn wsX0_behindWordRound wsX0_turned := goodIn_r _ [18, 10, 11, 5, 12, 7, 8, 9, 19, 20, 21, 22, 23, 24, 25, 26, 27, 28, 29, 30, 31, 32, 33, 34, 35, 36, 37, 38, 39, 40, 41] (by decide +kernel) (by decide +kernel)
set_option maxRecDepth 20000 in
theorem gX0_behindWordRound_X0_turned : GoodIn wsX0_behindWordRound (va_wsS RX0 39 yX0_turned wsX0_turned) := goodIn_app (goodIn_of _ (by decide +kernel)) ggX0_behindWordRound_X0_turned
theorem dX0_behindWordRound_0 : decode cX0_behindWordRound 0 = .ok (.lload_n 1, 1) := by decide +kernel
theorem dX0_behindWordRound_1 : decode cX0_behindWordRound 1 = .ok (.lstore 4, 2) := by decide +kernel
theorem dX0_behindWordRound_3 : decode cX0_behindWordRound 3 = .ok (.aload_n 0, 1) := by decide +kernel
theorem dX0_behindWordRound_4 : decode cX0_behindWordRound 4 = .ok (.getfield 24, 3) := by decide +kernel
theorem dX0_behindWordRound_7 : decode cX0_behindWordRound 7 = .ok (.iload_n 3, 1) := by decide +kernel
theorem dX0_behindWordRound_8 : decode cX0_behindWordRound 8 = .ok (.iaload, 1) := by decide +kernel
theorem dX0_behindWordRound_9 : decode cX0_behindWordRound 9 = .ok (.iconst 1, 1) := by decide +kernel
theorem dX0_behindWordRound_10 : decode cX0_behindWordRound 10 = .ok (.isub, 1) := by decide +kernel
theorem dX0_behindWordRound_11 : decode cX0_behindWordRound 11 = .ok (.istore 6, 2) := by decide +kernel
theorem dX0_behindWordRound_13 : decode cX0_behindWordRound 13 = .ok (.iload 6, 2) := by decide +kernel
theorem dX0_behindWordRound_15 : decode cX0_behindWordRound 15 = .ok (.ifCond .lt 28, 3) := by decide +kernel
theorem dX0_behindWordRound_18 : decode cX0_behindWordRound 18 = .ok (.lload 4, 2) := by decide +kernel
theorem dX0_behindWordRound_20 : decode cX0_behindWordRound 20 = .ok (.aload_n 0, 1) := by decide +kernel
theorem dX0_behindWordRound_21 : decode cX0_behindWordRound 21 = .ok (.getfield 21, 3) := by decide +kernel
theorem dX0_behindWordRound_24 : decode cX0_behindWordRound 24 = .ok (.iload_n 3, 1) := by decide +kernel
theorem dX0_behindWordRound_25 : decode cX0_behindWordRound 25 = .ok (.aaload, 1) := by decide +kernel
theorem dX0_behindWordRound_26 : decode cX0_behindWordRound 26 = .ok (.iload 6, 2) := by decide +kernel
theorem dX0_behindWordRound_28 : decode cX0_behindWordRound 28 = .ok (.iaload, 1) := by decide +kernel
theorem dX0_behindWordRound_29 : decode cX0_behindWordRound 29 = .ok (.invokestatic 70, 3) := by decide +kernel
theorem dX0_behindWordRound_32 : decode cX0_behindWordRound 32 = .ok (.invokestatic 39, 3) := by decide +kernel
theorem dX0_behindWordRound_35 : decode cX0_behindWordRound 35 = .ok (.lstore 4, 2) := by decide +kernel
theorem dX0_behindWordRound_37 : decode cX0_behindWordRound 37 = .ok (.iinc 6 (-1), 3) := by decide +kernel
theorem dX0_behindWordRound_40 : decode cX0_behindWordRound 40 = .ok (.goto (-27), 3) := by decide +kernel
theorem dX0_behindWordRound_43 : decode cX0_behindWordRound 43 = .ok (.lload 4, 2) := by decide +kernel
theorem dX0_behindWordRound_45 : decode cX0_behindWordRound 45 = .ok (.lreturn, 1) := by decide +kernel
theorem dX0_turnsOfAllWords_0 : decode cX0_turnsOfAllWords 0 = .ok (.iconst 0, 1) := by decide +kernel
theorem dX0_turnsOfAllWords_1 : decode cX0_turnsOfAllWords 1 = .ok (.istore_n 1, 1) := by decide +kernel
theorem dX0_turnsOfAllWords_2 : decode cX0_turnsOfAllWords 2 = .ok (.iconst 0, 1) := by decide +kernel
theorem dX0_turnsOfAllWords_3 : decode cX0_turnsOfAllWords 3 = .ok (.istore_n 2, 1) := by decide +kernel
theorem dX0_turnsOfAllWords_4 : decode cX0_turnsOfAllWords 4 = .ok (.iload_n 2, 1) := by decide +kernel
theorem dX0_turnsOfAllWords_5 : decode cX0_turnsOfAllWords 5 = .ok (.iconst 5, 1) := by decide +kernel
theorem dX0_turnsOfAllWords_6 : decode cX0_turnsOfAllWords 6 = .ok (.if_icmp .ge 18, 3) := by decide +kernel
theorem dX0_turnsOfAllWords_9 : decode cX0_turnsOfAllWords 9 = .ok (.iload_n 1, 1) := by decide +kernel
theorem dX0_turnsOfAllWords_10 : decode cX0_turnsOfAllWords 10 = .ok (.aload_n 0, 1) := by decide +kernel
theorem dX0_turnsOfAllWords_11 : decode cX0_turnsOfAllWords 11 = .ok (.getfield 24, 3) := by decide +kernel
theorem dX0_turnsOfAllWords_14 : decode cX0_turnsOfAllWords 14 = .ok (.iload_n 2, 1) := by decide +kernel
theorem dX0_turnsOfAllWords_15 : decode cX0_turnsOfAllWords 15 = .ok (.iaload, 1) := by decide +kernel
theorem dX0_turnsOfAllWords_16 : decode cX0_turnsOfAllWords 16 = .ok (.iadd, 1) := by decide +kernel
theorem dX0_turnsOfAllWords_17 : decode cX0_turnsOfAllWords 17 = .ok (.istore_n 1, 1) := by decide +kernel
theorem dX0_turnsOfAllWords_18 : decode cX0_turnsOfAllWords 18 = .ok (.iinc 2 1, 3) := by decide +kernel
theorem dX0_turnsOfAllWords_21 : decode cX0_turnsOfAllWords 21 = .ok (.goto (-17), 3) := by decide +kernel
theorem dX0_turnsOfAllWords_24 : decode cX0_turnsOfAllWords 24 = .ok (.iload_n 1, 1) := by decide +kernel
theorem dX0_turnsOfAllWords_25 : decode cX0_turnsOfAllWords 25 = .ok (.ireturn, 1) := by decide +kernel
theorem dX0_cornerAt_0 : decode cX0_cornerAt 0 = .ok (.lload_n 0, 1) := by decide +kernel
theorem dX0_cornerAt_1 : decode cX0_cornerAt 1 = .ok (.bipush 8, 2) := by decide +kernel
theorem dX0_cornerAt_3 : decode cX0_cornerAt 3 = .ok (.iload_n 2, 1) := by decide +kernel
theorem dX0_cornerAt_4 : decode cX0_cornerAt 4 = .ok (.imul, 1) := by decide +kernel
theorem dX0_cornerAt_5 : decode cX0_cornerAt 5 = .ok (.lushr, 1) := by decide +kernel
theorem dX0_cornerAt_6 : decode cX0_cornerAt 6 = .ok (.l2i, 1) := by decide +kernel
theorem dX0_cornerAt_7 : decode cX0_cornerAt 7 = .ok (.bipush 7, 2) := by decide +kernel
theorem dX0_cornerAt_9 : decode cX0_cornerAt 9 = .ok (.iand, 1) := by decide +kernel
theorem dX0_cornerAt_10 : decode cX0_cornerAt 10 = .ok (.ireturn, 1) := by decide +kernel
theorem dX0_twistAt_0 : decode cX0_twistAt 0 = .ok (.lload_n 0, 1) := by decide +kernel
theorem dX0_twistAt_1 : decode cX0_twistAt 1 = .ok (.bipush 8, 2) := by decide +kernel
theorem dX0_twistAt_3 : decode cX0_twistAt 3 = .ok (.iload_n 2, 1) := by decide +kernel
theorem dX0_twistAt_4 : decode cX0_twistAt 4 = .ok (.imul, 1) := by decide +kernel
theorem dX0_twistAt_5 : decode cX0_twistAt 5 = .ok (.iconst 3, 1) := by decide +kernel
theorem dX0_twistAt_6 : decode cX0_twistAt 6 = .ok (.iadd, 1) := by decide +kernel
theorem dX0_twistAt_7 : decode cX0_twistAt 7 = .ok (.lushr, 1) := by decide +kernel
theorem dX0_twistAt_8 : decode cX0_twistAt 8 = .ok (.l2i, 1) := by decide +kernel
theorem dX0_twistAt_9 : decode cX0_twistAt 9 = .ok (.iconst 3, 1) := by decide +kernel
theorem dX0_twistAt_10 : decode cX0_twistAt 10 = .ok (.iand, 1) := by decide +kernel
theorem dX0_twistAt_11 : decode cX0_twistAt 11 = .ok (.ireturn, 1) := by decide +kernel
set_option maxRecDepth 20000 in
theorem ggX0_isRight_X0_cornerAt : GoodIn wsX0_isRight wsX0_cornerAt := goodIn_r _ [4] (by decide +kernel) (by decide +kernel)
set_option maxRecDepth 20000 in
theorem gX0_isRight_X0_cornerAt : GoodIn wsX0_isRight (va_wsS RX0 87 yX0_cornerAt wsX0_cornerAt) := goodIn_app (goodIn_of _ (by decide +kernel)) ggX0_isRight_X0_cornerAt
set_option maxRecDepth 20000 in
theorem ggX0_isRight_X0_twistAt : GoodIn wsX0_isRight wsX0_twistAt := goodIn_r _ [7] (by decide +kernel) (by decide +kernel)
set_option maxRecDepth 20000 in
theorem gX0_isRight_X0_twistAt : GoodIn wsX0_isRight (va_wsS RX0 91 yX0_twistAt wsX0_twistAt) := goodIn_app (goodIn_of _ (by decide +kernel)) ggX0_isRight_X0_twistAt
theorem dX0_isRight_0 : decode cX0_isRight 0 = .ok (.lload_n 0, 1) := by decide +kernel
theorem dX0_isRight_1 : decode cX0_isRight 1 = .ok (.iload_n 2, 1) := by decide +kernel
theorem dX0_isRight_2 : decode cX0_isRight 2 = .ok (.invokestatic 87, 3) := by decide +kernel
theorem dX0_isRight_5 : decode cX0_isRight 5 = .ok (.iload_n 2, 1) := by decide +kernel
theorem dX0_isRight_6 : decode cX0_isRight 6 = .ok (.if_icmp .ne 15, 3) := by decide +kernel
theorem dX0_isRight_9 : decode cX0_isRight 9 = .ok (.lload_n 0, 1) := by decide +kernel
theorem dX0_isRight_10 : decode cX0_isRight 10 = .ok (.iload_n 2, 1) := by decide +kernel
theorem dX0_isRight_11 : decode cX0_isRight 11 = .ok (.invokestatic 91, 3) := by decide +kernel
theorem dX0_isRight_14 : decode cX0_isRight 14 = .ok (.ifCond .ne 7, 3) := by decide +kernel
theorem dX0_isRight_17 : decode cX0_isRight 17 = .ok (.iconst 1, 1) := by decide +kernel
theorem dX0_isRight_18 : decode cX0_isRight 18 = .ok (.goto 4, 3) := by decide +kernel
theorem dX0_isRight_21 : decode cX0_isRight 21 = .ok (.iconst 0, 1) := by decide +kernel
theorem dX0_isRight_22 : decode cX0_isRight 22 = .ok (.ireturn, 1) := by decide +kernel
set_option maxRecDepth 20000 in
theorem ggX0_rightCorners_X0_isRight : GoodIn wsX0_rightCorners wsX0_isRight := goodIn_r _ [4, 5, 6, 3, 7, 8, 9, 10] (by decide +kernel) (by decide +kernel)
set_option maxRecDepth 20000 in
theorem gX0_rightCorners_X0_isRight : GoodIn wsX0_rightCorners (va_wsS RX0 94 yX0_isRight wsX0_isRight) := goodIn_app (goodIn_of _ (by decide +kernel)) ggX0_rightCorners_X0_isRight
theorem dX0_rightCorners_0 : decode cX0_rightCorners 0 = .ok (.iconst 0, 1) := by decide +kernel
theorem dX0_rightCorners_1 : decode cX0_rightCorners 1 = .ok (.istore_n 2, 1) := by decide +kernel
theorem dX0_rightCorners_2 : decode cX0_rightCorners 2 = .ok (.iconst 0, 1) := by decide +kernel
theorem dX0_rightCorners_3 : decode cX0_rightCorners 3 = .ok (.istore_n 3, 1) := by decide +kernel
theorem dX0_rightCorners_4 : decode cX0_rightCorners 4 = .ok (.iload_n 3, 1) := by decide +kernel
theorem dX0_rightCorners_5 : decode cX0_rightCorners 5 = .ok (.bipush 8, 2) := by decide +kernel
theorem dX0_rightCorners_7 : decode cX0_rightCorners 7 = .ok (.if_icmp .ge 20, 3) := by decide +kernel
theorem dX0_rightCorners_10 : decode cX0_rightCorners 10 = .ok (.lload_n 0, 1) := by decide +kernel
theorem dX0_rightCorners_11 : decode cX0_rightCorners 11 = .ok (.iload_n 3, 1) := by decide +kernel
theorem dX0_rightCorners_12 : decode cX0_rightCorners 12 = .ok (.invokestatic 94, 3) := by decide +kernel
theorem dX0_rightCorners_15 : decode cX0_rightCorners 15 = .ok (.ifCond .eq 6, 3) := by decide +kernel
theorem dX0_rightCorners_18 : decode cX0_rightCorners 18 = .ok (.iinc 2 1, 3) := by decide +kernel
theorem dX0_rightCorners_21 : decode cX0_rightCorners 21 = .ok (.iinc 3 1, 3) := by decide +kernel
theorem dX0_rightCorners_24 : decode cX0_rightCorners 24 = .ok (.goto (-20), 3) := by decide +kernel
theorem dX0_rightCorners_27 : decode cX0_rightCorners 27 = .ok (.iload_n 2, 1) := by decide +kernel
theorem dX0_rightCorners_28 : decode cX0_rightCorners 28 = .ok (.ireturn, 1) := by decide +kernel
set_option maxRecDepth 20000 in
theorem ggX0_wrongCorners_X0_rightCorners : GoodIn wsX0_wrongCorners wsX0_rightCorners := goodIn_r _ [4, 5, 6, 3, 7, 8, 9, 10, 11, 12, 13] (by decide +kernel) (by decide +kernel)
set_option maxRecDepth 20000 in
theorem gX0_wrongCorners_X0_rightCorners : GoodIn wsX0_wrongCorners (va_wsS RX0 43 yX0_rightCorners wsX0_rightCorners) := goodIn_app (goodIn_of _ (by decide +kernel)) ggX0_wrongCorners_X0_rightCorners
theorem dX0_wrongCorners_0 : decode cX0_wrongCorners 0 = .ok (.bipush 8, 2) := by decide +kernel
theorem dX0_wrongCorners_2 : decode cX0_wrongCorners 2 = .ok (.lload_n 0, 1) := by decide +kernel
theorem dX0_wrongCorners_3 : decode cX0_wrongCorners 3 = .ok (.invokestatic 43, 3) := by decide +kernel
theorem dX0_wrongCorners_6 : decode cX0_wrongCorners 6 = .ok (.isub, 1) := by decide +kernel
theorem dX0_wrongCorners_7 : decode cX0_wrongCorners 7 = .ok (.ireturn, 1) := by decide +kernel
set_option maxRecDepth 20000 in
theorem ggX0_placedCorners_X0_cornerAt : GoodIn wsX0_placedCorners wsX0_cornerAt := goodIn_r _ [4] (by decide +kernel) (by decide +kernel)
set_option maxRecDepth 20000 in
theorem gX0_placedCorners_X0_cornerAt : GoodIn wsX0_placedCorners (va_wsS RX0 87 yX0_cornerAt wsX0_cornerAt) := goodIn_app (goodIn_of _ (by decide +kernel)) ggX0_placedCorners_X0_cornerAt
theorem dX0_placedCorners_0 : decode cX0_placedCorners 0 = .ok (.iconst 0, 1) := by decide +kernel
theorem dX0_placedCorners_1 : decode cX0_placedCorners 1 = .ok (.istore_n 2, 1) := by decide +kernel
theorem dX0_placedCorners_2 : decode cX0_placedCorners 2 = .ok (.iconst 0, 1) := by decide +kernel
theorem dX0_placedCorners_3 : decode cX0_placedCorners 3 = .ok (.istore_n 3, 1) := by decide +kernel
theorem dX0_placedCorners_4 : decode cX0_placedCorners 4 = .ok (.iload_n 3, 1) := by decide +kernel
theorem dX0_placedCorners_5 : decode cX0_placedCorners 5 = .ok (.bipush 8, 2) := by decide +kernel
theorem dX0_placedCorners_7 : decode cX0_placedCorners 7 = .ok (.if_icmp .ge 21, 3) := by decide +kernel
theorem dX0_placedCorners_10 : decode cX0_placedCorners 10 = .ok (.lload_n 0, 1) := by decide +kernel
theorem dX0_placedCorners_11 : decode cX0_placedCorners 11 = .ok (.iload_n 3, 1) := by decide +kernel
theorem dX0_placedCorners_12 : decode cX0_placedCorners 12 = .ok (.invokestatic 87, 3) := by decide +kernel
theorem dX0_placedCorners_15 : decode cX0_placedCorners 15 = .ok (.iload_n 3, 1) := by decide +kernel
theorem dX0_placedCorners_16 : decode cX0_placedCorners 16 = .ok (.if_icmp .ne 6, 3) := by decide +kernel
theorem dX0_placedCorners_19 : decode cX0_placedCorners 19 = .ok (.iinc 2 1, 3) := by decide +kernel
theorem dX0_placedCorners_22 : decode cX0_placedCorners 22 = .ok (.iinc 3 1, 3) := by decide +kernel
theorem dX0_placedCorners_25 : decode cX0_placedCorners 25 = .ok (.goto (-21), 3) := by decide +kernel
theorem dX0_placedCorners_28 : decode cX0_placedCorners 28 = .ok (.iload_n 2, 1) := by decide +kernel
theorem dX0_placedCorners_29 : decode cX0_placedCorners 29 = .ok (.ireturn, 1) := by decide +kernel
set_option maxRecDepth 20000 in
theorem ggX0_untwistedCorners_X0_twistAt : GoodIn wsX0_untwistedCorners wsX0_twistAt := goodIn_r _ [4] (by decide +kernel) (by decide +kernel)
set_option maxRecDepth 20000 in
theorem gX0_untwistedCorners_X0_twistAt : GoodIn wsX0_untwistedCorners (va_wsS RX0 91 yX0_twistAt wsX0_twistAt) := goodIn_app (goodIn_of _ (by decide +kernel)) ggX0_untwistedCorners_X0_twistAt
theorem dX0_untwistedCorners_0 : decode cX0_untwistedCorners 0 = .ok (.iconst 0, 1) := by decide +kernel
theorem dX0_untwistedCorners_1 : decode cX0_untwistedCorners 1 = .ok (.istore_n 2, 1) := by decide +kernel
theorem dX0_untwistedCorners_2 : decode cX0_untwistedCorners 2 = .ok (.iconst 0, 1) := by decide +kernel
theorem dX0_untwistedCorners_3 : decode cX0_untwistedCorners 3 = .ok (.istore_n 3, 1) := by decide +kernel
theorem dX0_untwistedCorners_4 : decode cX0_untwistedCorners 4 = .ok (.iload_n 3, 1) := by decide +kernel
theorem dX0_untwistedCorners_5 : decode cX0_untwistedCorners 5 = .ok (.bipush 8, 2) := by decide +kernel
theorem dX0_untwistedCorners_7 : decode cX0_untwistedCorners 7 = .ok (.if_icmp .ge 20, 3) := by decide +kernel
theorem dX0_untwistedCorners_10 : decode cX0_untwistedCorners 10 = .ok (.lload_n 0, 1) := by decide +kernel
theorem dX0_untwistedCorners_11 : decode cX0_untwistedCorners 11 = .ok (.iload_n 3, 1) := by decide +kernel
theorem dX0_untwistedCorners_12 : decode cX0_untwistedCorners 12 = .ok (.invokestatic 91, 3) := by decide +kernel
theorem dX0_untwistedCorners_15 : decode cX0_untwistedCorners 15 = .ok (.ifCond .ne 6, 3) := by decide +kernel
theorem dX0_untwistedCorners_18 : decode cX0_untwistedCorners 18 = .ok (.iinc 2 1, 3) := by decide +kernel
theorem dX0_untwistedCorners_21 : decode cX0_untwistedCorners 21 = .ok (.iinc 3 1, 3) := by decide +kernel
theorem dX0_untwistedCorners_24 : decode cX0_untwistedCorners 24 = .ok (.goto (-20), 3) := by decide +kernel
theorem dX0_untwistedCorners_27 : decode cX0_untwistedCorners 27 = .ok (.iload_n 2, 1) := by decide +kernel
theorem dX0_untwistedCorners_28 : decode cX0_untwistedCorners 28 = .ok (.ireturn, 1) := by decide +kernel
set_option maxRecDepth 20000 in
theorem ggX0_pairsOutOfOrder_X0_cornerAt : GoodIn wsX0_pairsOutOfOrder wsX0_cornerAt := goodIn_r _ [4] (by decide +kernel) (by decide +kernel)
set_option maxRecDepth 20000 in
theorem gX0_pairsOutOfOrder_X0_cornerAt : GoodIn wsX0_pairsOutOfOrder (va_wsS RX0 87 yX0_cornerAt wsX0_cornerAt) := goodIn_app (goodIn_of _ (by decide +kernel)) ggX0_pairsOutOfOrder_X0_cornerAt
theorem dX0_pairsOutOfOrder_0 : decode cX0_pairsOutOfOrder 0 = .ok (.iconst 0, 1) := by decide +kernel
theorem dX0_pairsOutOfOrder_1 : decode cX0_pairsOutOfOrder 1 = .ok (.istore_n 2, 1) := by decide +kernel
theorem dX0_pairsOutOfOrder_2 : decode cX0_pairsOutOfOrder 2 = .ok (.iconst 0, 1) := by decide +kernel
theorem dX0_pairsOutOfOrder_3 : decode cX0_pairsOutOfOrder 3 = .ok (.istore_n 3, 1) := by decide +kernel
theorem dX0_pairsOutOfOrder_4 : decode cX0_pairsOutOfOrder 4 = .ok (.iload_n 3, 1) := by decide +kernel
theorem dX0_pairsOutOfOrder_5 : decode cX0_pairsOutOfOrder 5 = .ok (.bipush 8, 2) := by decide +kernel
theorem dX0_pairsOutOfOrder_7 : decode cX0_pairsOutOfOrder 7 = .ok (.if_icmp .ge 44, 3) := by decide +kernel
theorem dX0_pairsOutOfOrder_10 : decode cX0_pairsOutOfOrder 10 = .ok (.iload_n 3, 1) := by decide +kernel
theorem dX0_pairsOutOfOrder_11 : decode cX0_pairsOutOfOrder 11 = .ok (.iconst 1, 1) := by decide +kernel
theorem dX0_pairsOutOfOrder_12 : decode cX0_pairsOutOfOrder 12 = .ok (.iadd, 1) := by decide +kernel
theorem dX0_pairsOutOfOrder_13 : decode cX0_pairsOutOfOrder 13 = .ok (.istore 4, 2) := by decide +kernel
theorem dX0_pairsOutOfOrder_15 : decode cX0_pairsOutOfOrder 15 = .ok (.iload 4, 2) := by decide +kernel
theorem dX0_pairsOutOfOrder_17 : decode cX0_pairsOutOfOrder 17 = .ok (.bipush 8, 2) := by decide +kernel
theorem dX0_pairsOutOfOrder_19 : decode cX0_pairsOutOfOrder 19 = .ok (.if_icmp .ge 26, 3) := by decide +kernel
theorem dX0_pairsOutOfOrder_22 : decode cX0_pairsOutOfOrder 22 = .ok (.lload_n 0, 1) := by decide +kernel
theorem dX0_pairsOutOfOrder_23 : decode cX0_pairsOutOfOrder 23 = .ok (.iload_n 3, 1) := by decide +kernel
theorem dX0_pairsOutOfOrder_24 : decode cX0_pairsOutOfOrder 24 = .ok (.invokestatic 87, 3) := by decide +kernel
theorem dX0_pairsOutOfOrder_27 : decode cX0_pairsOutOfOrder 27 = .ok (.lload_n 0, 1) := by decide +kernel
theorem dX0_pairsOutOfOrder_28 : decode cX0_pairsOutOfOrder 28 = .ok (.iload 4, 2) := by decide +kernel
theorem dX0_pairsOutOfOrder_30 : decode cX0_pairsOutOfOrder 30 = .ok (.invokestatic 87, 3) := by decide +kernel
theorem dX0_pairsOutOfOrder_33 : decode cX0_pairsOutOfOrder 33 = .ok (.if_icmp .le 6, 3) := by decide +kernel
theorem dX0_pairsOutOfOrder_36 : decode cX0_pairsOutOfOrder 36 = .ok (.iinc 2 1, 3) := by decide +kernel
theorem dX0_pairsOutOfOrder_39 : decode cX0_pairsOutOfOrder 39 = .ok (.iinc 4 1, 3) := by decide +kernel
theorem dX0_pairsOutOfOrder_42 : decode cX0_pairsOutOfOrder 42 = .ok (.goto (-27), 3) := by decide +kernel
theorem dX0_pairsOutOfOrder_45 : decode cX0_pairsOutOfOrder 45 = .ok (.iinc 3 1, 3) := by decide +kernel
theorem dX0_pairsOutOfOrder_48 : decode cX0_pairsOutOfOrder 48 = .ok (.goto (-44), 3) := by decide +kernel
theorem dX0_pairsOutOfOrder_51 : decode cX0_pairsOutOfOrder 51 = .ok (.iload_n 2, 1) := by decide +kernel
theorem dX0_pairsOutOfOrder_52 : decode cX0_pairsOutOfOrder 52 = .ok (.ireturn, 1) := by decide +kernel
set_option maxRecDepth 20000 in
theorem ggX0_orderOf_X0_behindDeed : GoodIn wsX0_orderOf wsX0_behindDeed := goodIn_r _ [5, 6, 7, 4, 8, 9, 10, 11, 12, 13, 14, 15, 16] (by decide +kernel) (by decide +kernel)
set_option maxRecDepth 20000 in
theorem gX0_orderOf_X0_behindDeed : GoodIn wsX0_orderOf (va_wsS RX0 171 yX0_behindDeed wsX0_behindDeed) := goodIn_app (goodIn_of _ (by decide +kernel)) ggX0_orderOf_X0_behindDeed
theorem dX0_orderOf_0 : decode cX0_orderOf 0 = .ok (.iconst 1, 1) := by decide +kernel
theorem dX0_orderOf_1 : decode cX0_orderOf 1 = .ok (.istore_n 2, 1) := by decide +kernel
theorem dX0_orderOf_2 : decode cX0_orderOf 2 = .ok (.lload_n 0, 1) := by decide +kernel
theorem dX0_orderOf_3 : decode cX0_orderOf 3 = .ok (.lstore_n 3, 1) := by decide +kernel
theorem dX0_orderOf_4 : decode cX0_orderOf 4 = .ok (.lload_n 3, 1) := by decide +kernel
theorem dX0_orderOf_5 : decode cX0_orderOf 5 = .ok (.ldc2_w 9, 3) := by decide +kernel
theorem dX0_orderOf_8 : decode cX0_orderOf 8 = .ok (.lcmp, 1) := by decide +kernel
theorem dX0_orderOf_9 : decode cX0_orderOf 9 = .ok (.ifCond .eq 22, 3) := by decide +kernel
theorem dX0_orderOf_12 : decode cX0_orderOf 12 = .ok (.iload_n 2, 1) := by decide +kernel
theorem dX0_orderOf_13 : decode cX0_orderOf 13 = .ok (.sipush 1000, 3) := by decide +kernel
theorem dX0_orderOf_16 : decode cX0_orderOf 16 = .ok (.if_icmp .ge 15, 3) := by decide +kernel
theorem dX0_orderOf_19 : decode cX0_orderOf 19 = .ok (.lload_n 3, 1) := by decide +kernel
theorem dX0_orderOf_20 : decode cX0_orderOf 20 = .ok (.lload_n 0, 1) := by decide +kernel
theorem dX0_orderOf_21 : decode cX0_orderOf 21 = .ok (.invokestatic 171, 3) := by decide +kernel
theorem dX0_orderOf_24 : decode cX0_orderOf 24 = .ok (.lstore_n 3, 1) := by decide +kernel
theorem dX0_orderOf_25 : decode cX0_orderOf 25 = .ok (.iinc 2 1, 3) := by decide +kernel
theorem dX0_orderOf_28 : decode cX0_orderOf 28 = .ok (.goto (-24), 3) := by decide +kernel
theorem dX0_orderOf_31 : decode cX0_orderOf 31 = .ok (.iload_n 2, 1) := by decide +kernel
theorem dX0_orderOf_32 : decode cX0_orderOf 32 = .ok (.ireturn, 1) := by decide +kernel
theorem dX0_withCorner_0 : decode cX0_withCorner 0 = .ok (.lload_n 0, 1) := by decide +kernel
theorem dX0_withCorner_1 : decode cX0_withCorner 1 = .ok (.ldc2_w 175, 3) := by decide +kernel
theorem dX0_withCorner_4 : decode cX0_withCorner 4 = .ok (.bipush 8, 2) := by decide +kernel
theorem dX0_withCorner_6 : decode cX0_withCorner 6 = .ok (.iload_n 2, 1) := by decide +kernel
theorem dX0_withCorner_7 : decode cX0_withCorner 7 = .ok (.imul, 1) := by decide +kernel
theorem dX0_withCorner_8 : decode cX0_withCorner 8 = .ok (.lshl, 1) := by decide +kernel
theorem dX0_withCorner_9 : decode cX0_withCorner 9 = .ok (.ldc2_w 177, 3) := by decide +kernel
theorem dX0_withCorner_12 : decode cX0_withCorner 12 = .ok (.lxor, 1) := by decide +kernel
theorem dX0_withCorner_13 : decode cX0_withCorner 13 = .ok (.land, 1) := by decide +kernel
theorem dX0_withCorner_14 : decode cX0_withCorner 14 = .ok (.lstore 5, 2) := by decide +kernel
theorem dX0_withCorner_16 : decode cX0_withCorner 16 = .ok (.iload 4, 2) := by decide +kernel
theorem dX0_withCorner_18 : decode cX0_withCorner 18 = .ok (.iconst 3, 1) := by decide +kernel
theorem dX0_withCorner_19 : decode cX0_withCorner 19 = .ok (.irem, 1) := by decide +kernel
theorem dX0_withCorner_20 : decode cX0_withCorner 20 = .ok (.iconst 3, 1) := by decide +kernel
theorem dX0_withCorner_21 : decode cX0_withCorner 21 = .ok (.ishl, 1) := by decide +kernel
theorem dX0_withCorner_22 : decode cX0_withCorner 22 = .ok (.iload_n 3, 1) := by decide +kernel
theorem dX0_withCorner_23 : decode cX0_withCorner 23 = .ok (.ior, 1) := by decide +kernel
theorem dX0_withCorner_24 : decode cX0_withCorner 24 = .ok (.i2l, 1) := by decide +kernel
theorem dX0_withCorner_25 : decode cX0_withCorner 25 = .ok (.lstore 7, 2) := by decide +kernel
theorem dX0_withCorner_27 : decode cX0_withCorner 27 = .ok (.lload 5, 2) := by decide +kernel
theorem dX0_withCorner_29 : decode cX0_withCorner 29 = .ok (.lload 7, 2) := by decide +kernel
theorem dX0_withCorner_31 : decode cX0_withCorner 31 = .ok (.bipush 8, 2) := by decide +kernel
theorem dX0_withCorner_33 : decode cX0_withCorner 33 = .ok (.iload_n 2, 1) := by decide +kernel
theorem dX0_withCorner_34 : decode cX0_withCorner 34 = .ok (.imul, 1) := by decide +kernel
theorem dX0_withCorner_35 : decode cX0_withCorner 35 = .ok (.lshl, 1) := by decide +kernel
theorem dX0_withCorner_36 : decode cX0_withCorner 36 = .ok (.lor, 1) := by decide +kernel
theorem dX0_withCorner_37 : decode cX0_withCorner 37 = .ok (.lreturn, 1) := by decide +kernel
set_option maxRecDepth 20000 in
theorem ggX0_turned_X0_quartersOf : GoodIn wsX0_turned wsX0_quartersOf := goodIn_r _ [4] (by decide +kernel) (by decide +kernel)
set_option maxRecDepth 20000 in
theorem gX0_turned_X0_quartersOf : GoodIn wsX0_turned (va_wsS RX0 168 yX0_quartersOf wsX0_quartersOf) := goodIn_app (goodIn_of _ (by decide +kernel)) ggX0_turned_X0_quartersOf
set_option maxRecDepth 20000 in
theorem ggX0_turned_X0_faceOf : GoodIn wsX0_turned wsX0_faceOf := goodIn_r _ [7] (by decide +kernel) (by decide +kernel)
set_option maxRecDepth 20000 in
theorem gX0_turned_X0_faceOf : GoodIn wsX0_turned (va_wsS RX0 134 yX0_faceOf wsX0_faceOf) := goodIn_app (goodIn_of _ (by decide +kernel)) ggX0_turned_X0_faceOf
set_option maxRecDepth 20000 in
theorem ggX0_turned_X0_quarterTurned : GoodIn wsX0_turned wsX0_quarterTurned := goodIn_r _ [10, 11, 12, 3, 13, 14, 15, 16, 17, 18, 19, 20, 21, 22, 23, 24, 25, 26, 27, 28, 29, 30] (by decide +kernel) (by decide +kernel)
set_option maxRecDepth 20000 in
theorem gX0_turned_X0_quarterTurned : GoodIn wsX0_turned (va_wsS RX0 179 yX0_quarterTurned wsX0_quarterTurned) := goodIn_app (goodIn_of _ (by decide +kernel)) ggX0_turned_X0_quarterTurned
theorem dX0_turned_0 : decode cX0_turned 0 = .ok (.lload_n 0, 1) := by decide +kernel
theorem dX0_turned_1 : decode cX0_turned 1 = .ok (.lstore_n 3, 1) := by decide +kernel
theorem dX0_turned_2 : decode cX0_turned 2 = .ok (.iconst 0, 1) := by decide +kernel
theorem dX0_turned_3 : decode cX0_turned 3 = .ok (.istore 5, 2) := by decide +kernel
theorem dX0_turned_5 : decode cX0_turned 5 = .ok (.iload 5, 2) := by decide +kernel
theorem dX0_turned_7 : decode cX0_turned 7 = .ok (.iload_n 2, 1) := by decide +kernel
theorem dX0_turned_8 : decode cX0_turned 8 = .ok (.invokestatic 168, 3) := by decide +kernel
theorem dX0_turned_11 : decode cX0_turned 11 = .ok (.if_icmp .ge 18, 3) := by decide +kernel
theorem dX0_turned_14 : decode cX0_turned 14 = .ok (.lload_n 3, 1) := by decide +kernel
theorem dX0_turned_15 : decode cX0_turned 15 = .ok (.iload_n 2, 1) := by decide +kernel
theorem dX0_turned_16 : decode cX0_turned 16 = .ok (.invokestatic 134, 3) := by decide +kernel
theorem dX0_turned_19 : decode cX0_turned 19 = .ok (.invokestatic 179, 3) := by decide +kernel
theorem dX0_turned_22 : decode cX0_turned 22 = .ok (.lstore_n 3, 1) := by decide +kernel
theorem dX0_turned_23 : decode cX0_turned 23 = .ok (.iinc 5 1, 3) := by decide +kernel
theorem dX0_turned_26 : decode cX0_turned 26 = .ok (.goto (-21), 3) := by decide +kernel
theorem dX0_turned_29 : decode cX0_turned 29 = .ok (.lload_n 3, 1) := by decide +kernel
theorem dX0_turned_30 : decode cX0_turned 30 = .ok (.lreturn, 1) := by decide +kernel
set_option maxRecDepth 20000 in
theorem ggX0_quarterTurned_X0_ringOf : GoodIn wsX0_quarterTurned wsX0_ringOf := goodIn_r _ [4] (by decide +kernel) (by decide +kernel)
set_option maxRecDepth 20000 in
theorem gX0_quarterTurned_X0_ringOf : GoodIn wsX0_quarterTurned (va_wsS RX0 182 yX0_ringOf wsX0_ringOf) := goodIn_app (goodIn_of _ (by decide +kernel)) ggX0_quarterTurned_X0_ringOf
set_option maxRecDepth 20000 in
theorem ggX0_quarterTurned_X0_moreTwistOf : GoodIn wsX0_quarterTurned wsX0_moreTwistOf := goodIn_r _ [7] (by decide +kernel) (by decide +kernel)
set_option maxRecDepth 20000 in
theorem gX0_quarterTurned_X0_moreTwistOf : GoodIn wsX0_quarterTurned (va_wsS RX0 185 yX0_moreTwistOf wsX0_moreTwistOf) := goodIn_app (goodIn_of _ (by decide +kernel)) ggX0_quarterTurned_X0_moreTwistOf
set_option maxRecDepth 20000 in
theorem ggX0_quarterTurned_X0_hexDigit : GoodIn wsX0_quarterTurned wsX0_hexDigit := goodIn_r _ [10] (by decide +kernel) (by decide +kernel)
set_option maxRecDepth 20000 in
theorem gX0_quarterTurned_X0_hexDigit : GoodIn wsX0_quarterTurned (va_wsS RX0 188 yX0_hexDigit wsX0_hexDigit) := goodIn_app (goodIn_of _ (by decide +kernel)) ggX0_quarterTurned_X0_hexDigit
set_option maxRecDepth 20000 in
theorem ggX0_quarterTurned_X0_cornerAt : GoodIn wsX0_quarterTurned wsX0_cornerAt := goodIn_r _ [13] (by decide +kernel) (by decide +kernel)
set_option maxRecDepth 20000 in
theorem gX0_quarterTurned_X0_cornerAt : GoodIn wsX0_quarterTurned (va_wsS RX0 87 yX0_cornerAt wsX0_cornerAt) := goodIn_app (goodIn_of _ (by decide +kernel)) ggX0_quarterTurned_X0_cornerAt
set_option maxRecDepth 20000 in
theorem ggX0_quarterTurned_X0_twistAt : GoodIn wsX0_quarterTurned wsX0_twistAt := goodIn_r _ [16] (by decide +kernel) (by decide +kernel)
set_option maxRecDepth 20000 in
theorem gX0_quarterTurned_X0_twistAt : GoodIn wsX0_quarterTurned (va_wsS RX0 91 yX0_twistAt wsX0_twistAt) := goodIn_app (goodIn_of _ (by decide +kernel)) ggX0_quarterTurned_X0_twistAt
set_option maxRecDepth 20000 in
theorem ggX0_quarterTurned_X0_withCorner : GoodIn wsX0_quarterTurned wsX0_withCorner := goodIn_r _ [19, 20, 21] (by decide +kernel) (by decide +kernel)
set_option maxRecDepth 20000 in
theorem gX0_quarterTurned_X0_withCorner : GoodIn wsX0_quarterTurned (va_wsS RX0 191 yX0_withCorner wsX0_withCorner) := goodIn_app (goodIn_of _ (by decide +kernel)) ggX0_quarterTurned_X0_withCorner
theorem dX0_quarterTurned_0 : decode cX0_quarterTurned 0 = .ok (.iload_n 2, 1) := by decide +kernel
theorem dX0_quarterTurned_1 : decode cX0_quarterTurned 1 = .ok (.invokestatic 182, 3) := by decide +kernel
theorem dX0_quarterTurned_4 : decode cX0_quarterTurned 4 = .ok (.istore_n 3, 1) := by decide +kernel
theorem dX0_quarterTurned_5 : decode cX0_quarterTurned 5 = .ok (.iload_n 2, 1) := by decide +kernel
theorem dX0_quarterTurned_6 : decode cX0_quarterTurned 6 = .ok (.invokestatic 185, 3) := by decide +kernel
theorem dX0_quarterTurned_9 : decode cX0_quarterTurned 9 = .ok (.istore 4, 2) := by decide +kernel
theorem dX0_quarterTurned_11 : decode cX0_quarterTurned 11 = .ok (.lload_n 0, 1) := by decide +kernel
theorem dX0_quarterTurned_12 : decode cX0_quarterTurned 12 = .ok (.lstore 5, 2) := by decide +kernel
theorem dX0_quarterTurned_14 : decode cX0_quarterTurned 14 = .ok (.iconst 0, 1) := by decide +kernel
theorem dX0_quarterTurned_15 : decode cX0_quarterTurned 15 = .ok (.istore 7, 2) := by decide +kernel
theorem dX0_quarterTurned_17 : decode cX0_quarterTurned 17 = .ok (.iload 7, 2) := by decide +kernel
theorem dX0_quarterTurned_19 : decode cX0_quarterTurned 19 = .ok (.iconst 4, 1) := by decide +kernel
theorem dX0_quarterTurned_20 : decode cX0_quarterTurned 20 = .ok (.if_icmp .ge 58, 3) := by decide +kernel
theorem dX0_quarterTurned_23 : decode cX0_quarterTurned 23 = .ok (.iload_n 3, 1) := by decide +kernel
theorem dX0_quarterTurned_24 : decode cX0_quarterTurned 24 = .ok (.iload 7, 2) := by decide +kernel
theorem dX0_quarterTurned_26 : decode cX0_quarterTurned 26 = .ok (.invokestatic 188, 3) := by decide +kernel
theorem dX0_quarterTurned_29 : decode cX0_quarterTurned 29 = .ok (.istore 8, 2) := by decide +kernel
theorem dX0_quarterTurned_31 : decode cX0_quarterTurned 31 = .ok (.iload_n 3, 1) := by decide +kernel
theorem dX0_quarterTurned_32 : decode cX0_quarterTurned 32 = .ok (.iload 7, 2) := by decide +kernel
theorem dX0_quarterTurned_34 : decode cX0_quarterTurned 34 = .ok (.iconst 1, 1) := by decide +kernel
theorem dX0_quarterTurned_35 : decode cX0_quarterTurned 35 = .ok (.iadd, 1) := by decide +kernel
theorem dX0_quarterTurned_36 : decode cX0_quarterTurned 36 = .ok (.iconst 4, 1) := by decide +kernel
theorem dX0_quarterTurned_37 : decode cX0_quarterTurned 37 = .ok (.irem, 1) := by decide +kernel
theorem dX0_quarterTurned_38 : decode cX0_quarterTurned 38 = .ok (.invokestatic 188, 3) := by decide +kernel
theorem dX0_quarterTurned_41 : decode cX0_quarterTurned 41 = .ok (.istore 9, 2) := by decide +kernel
theorem dX0_quarterTurned_43 : decode cX0_quarterTurned 43 = .ok (.lload 5, 2) := by decide +kernel
theorem dX0_quarterTurned_45 : decode cX0_quarterTurned 45 = .ok (.iload 9, 2) := by decide +kernel
theorem dX0_quarterTurned_47 : decode cX0_quarterTurned 47 = .ok (.lload_n 0, 1) := by decide +kernel
theorem dX0_quarterTurned_48 : decode cX0_quarterTurned 48 = .ok (.iload 8, 2) := by decide +kernel
theorem dX0_quarterTurned_50 : decode cX0_quarterTurned 50 = .ok (.invokestatic 87, 3) := by decide +kernel
theorem dX0_quarterTurned_53 : decode cX0_quarterTurned 53 = .ok (.lload_n 0, 1) := by decide +kernel
theorem dX0_quarterTurned_54 : decode cX0_quarterTurned 54 = .ok (.iload 8, 2) := by decide +kernel
theorem dX0_quarterTurned_56 : decode cX0_quarterTurned 56 = .ok (.invokestatic 91, 3) := by decide +kernel
theorem dX0_quarterTurned_59 : decode cX0_quarterTurned 59 = .ok (.iload 4, 2) := by decide +kernel
theorem dX0_quarterTurned_61 : decode cX0_quarterTurned 61 = .ok (.iload 7, 2) := by decide +kernel
theorem dX0_quarterTurned_63 : decode cX0_quarterTurned 63 = .ok (.invokestatic 188, 3) := by decide +kernel
theorem dX0_quarterTurned_66 : decode cX0_quarterTurned 66 = .ok (.iadd, 1) := by decide +kernel
theorem dX0_quarterTurned_67 : decode cX0_quarterTurned 67 = .ok (.invokestatic 191, 3) := by decide +kernel
theorem dX0_quarterTurned_70 : decode cX0_quarterTurned 70 = .ok (.lstore 5, 2) := by decide +kernel
theorem dX0_quarterTurned_72 : decode cX0_quarterTurned 72 = .ok (.iinc 7 1, 3) := by decide +kernel
theorem dX0_quarterTurned_75 : decode cX0_quarterTurned 75 = .ok (.goto (-58), 3) := by decide +kernel
theorem dX0_quarterTurned_78 : decode cX0_quarterTurned 78 = .ok (.lload 5, 2) := by decide +kernel
theorem dX0_quarterTurned_80 : decode cX0_quarterTurned 80 = .ok (.lreturn, 1) := by decide +kernel
theorem dX0_ringOf_0 : decode cX0_ringOf 0 = .ok (.iload_n 0, 1) := by decide +kernel
theorem dX0_ringOf_1 : decode cX0_ringOf 1 = .ok (.lookupswitch 35 #[(0, 27), (1, 31)], 27) := by decide +kernel
theorem dX0_ringOf_28 : decode cX0_ringOf 28 = .ok (.sipush 291, 3) := by decide +kernel
theorem dX0_ringOf_31 : decode cX0_ringOf 31 = .ok (.ireturn, 1) := by decide +kernel
theorem dX0_ringOf_32 : decode cX0_ringOf 32 = .ok (.sipush 884, 3) := by decide +kernel
theorem dX0_ringOf_35 : decode cX0_ringOf 35 = .ok (.ireturn, 1) := by decide +kernel
theorem dX0_ringOf_36 : decode cX0_ringOf 36 = .ok (.sipush 1105, 3) := by decide +kernel
theorem dX0_ringOf_39 : decode cX0_ringOf 39 = .ok (.ireturn, 1) := by decide +kernel
theorem dX0_moreTwistOf_0 : decode cX0_moreTwistOf 0 = .ok (.iload_n 0, 1) := by decide +kernel
theorem dX0_moreTwistOf_1 : decode cX0_moreTwistOf 1 = .ok (.lookupswitch 33 #[(0, 27), (1, 29)], 27) := by decide +kernel
theorem dX0_moreTwistOf_28 : decode cX0_moreTwistOf 28 = .ok (.iconst 0, 1) := by decide +kernel
theorem dX0_moreTwistOf_29 : decode cX0_moreTwistOf 29 = .ok (.ireturn, 1) := by decide +kernel
theorem dX0_moreTwistOf_30 : decode cX0_moreTwistOf 30 = .ok (.sipush 4626, 3) := by decide +kernel
theorem dX0_moreTwistOf_33 : decode cX0_moreTwistOf 33 = .ok (.ireturn, 1) := by decide +kernel
theorem dX0_moreTwistOf_34 : decode cX0_moreTwistOf 34 = .ok (.sipush 8481, 3) := by decide +kernel
theorem dX0_moreTwistOf_37 : decode cX0_moreTwistOf 37 = .ok (.ireturn, 1) := by decide +kernel
theorem dX0_hexDigit_0 : decode cX0_hexDigit 0 = .ok (.iload_n 0, 1) := by decide +kernel
theorem dX0_hexDigit_1 : decode cX0_hexDigit 1 = .ok (.iconst 4, 1) := by decide +kernel
theorem dX0_hexDigit_2 : decode cX0_hexDigit 2 = .ok (.iconst 3, 1) := by decide +kernel
theorem dX0_hexDigit_3 : decode cX0_hexDigit 3 = .ok (.iload_n 1, 1) := by decide +kernel
theorem dX0_hexDigit_4 : decode cX0_hexDigit 4 = .ok (.isub, 1) := by decide +kernel
theorem dX0_hexDigit_5 : decode cX0_hexDigit 5 = .ok (.imul, 1) := by decide +kernel
theorem dX0_hexDigit_6 : decode cX0_hexDigit 6 = .ok (.ishr, 1) := by decide +kernel
theorem dX0_hexDigit_7 : decode cX0_hexDigit 7 = .ok (.bipush 15, 2) := by decide +kernel
theorem dX0_hexDigit_9 : decode cX0_hexDigit 9 = .ok (.iand, 1) := by decide +kernel
theorem dX0_hexDigit_10 : decode cX0_hexDigit 10 = .ok (.ireturn, 1) := by decide +kernel
set_option maxRecDepth 20000 in
theorem ggX0_behindDeed_X0_cornerAt : GoodIn wsX0_behindDeed wsX0_cornerAt := goodIn_r _ [4] (by decide +kernel) (by decide +kernel)
set_option maxRecDepth 20000 in
theorem gX0_behindDeed_X0_cornerAt : GoodIn wsX0_behindDeed (va_wsS RX0 87 yX0_cornerAt wsX0_cornerAt) := goodIn_app (goodIn_of _ (by decide +kernel)) ggX0_behindDeed_X0_cornerAt
set_option maxRecDepth 20000 in
theorem ggX0_behindDeed_X0_twistAt : GoodIn wsX0_behindDeed wsX0_twistAt := goodIn_r _ [7] (by decide +kernel) (by decide +kernel)
set_option maxRecDepth 20000 in
theorem gX0_behindDeed_X0_twistAt : GoodIn wsX0_behindDeed (va_wsS RX0 91 yX0_twistAt wsX0_twistAt) := goodIn_app (goodIn_of _ (by decide +kernel)) ggX0_behindDeed_X0_twistAt
set_option maxRecDepth 20000 in
theorem ggX0_behindDeed_X0_withCorner : GoodIn wsX0_behindDeed wsX0_withCorner := goodIn_r _ [10, 11, 12] (by decide +kernel) (by decide +kernel)
set_option maxRecDepth 20000 in
theorem gX0_behindDeed_X0_withCorner : GoodIn wsX0_behindDeed (va_wsS RX0 191 yX0_withCorner wsX0_withCorner) := goodIn_app (goodIn_of _ (by decide +kernel)) ggX0_behindDeed_X0_withCorner
theorem dX0_behindDeed_0 : decode cX0_behindDeed 0 = .ok (.lload_n 0, 1) := by decide +kernel
theorem dX0_behindDeed_1 : decode cX0_behindDeed 1 = .ok (.lstore 4, 2) := by decide +kernel
theorem dX0_behindDeed_3 : decode cX0_behindDeed 3 = .ok (.iconst 0, 1) := by decide +kernel
theorem dX0_behindDeed_4 : decode cX0_behindDeed 4 = .ok (.istore 6, 2) := by decide +kernel
theorem dX0_behindDeed_6 : decode cX0_behindDeed 6 = .ok (.iload 6, 2) := by decide +kernel
theorem dX0_behindDeed_8 : decode cX0_behindDeed 8 = .ok (.bipush 8, 2) := by decide +kernel
theorem dX0_behindDeed_10 : decode cX0_behindDeed 10 = .ok (.if_icmp .ge 45, 3) := by decide +kernel
theorem dX0_behindDeed_13 : decode cX0_behindDeed 13 = .ok (.lload_n 2, 1) := by decide +kernel
theorem dX0_behindDeed_14 : decode cX0_behindDeed 14 = .ok (.iload 6, 2) := by decide +kernel
theorem dX0_behindDeed_16 : decode cX0_behindDeed 16 = .ok (.invokestatic 87, 3) := by decide +kernel
theorem dX0_behindDeed_19 : decode cX0_behindDeed 19 = .ok (.istore 7, 2) := by decide +kernel
theorem dX0_behindDeed_21 : decode cX0_behindDeed 21 = .ok (.lload 4, 2) := by decide +kernel
theorem dX0_behindDeed_23 : decode cX0_behindDeed 23 = .ok (.iload 6, 2) := by decide +kernel
theorem dX0_behindDeed_25 : decode cX0_behindDeed 25 = .ok (.lload_n 0, 1) := by decide +kernel
theorem dX0_behindDeed_26 : decode cX0_behindDeed 26 = .ok (.iload 7, 2) := by decide +kernel
theorem dX0_behindDeed_28 : decode cX0_behindDeed 28 = .ok (.invokestatic 87, 3) := by decide +kernel
theorem dX0_behindDeed_31 : decode cX0_behindDeed 31 = .ok (.lload_n 0, 1) := by decide +kernel
theorem dX0_behindDeed_32 : decode cX0_behindDeed 32 = .ok (.iload 7, 2) := by decide +kernel
theorem dX0_behindDeed_34 : decode cX0_behindDeed 34 = .ok (.invokestatic 91, 3) := by decide +kernel
theorem dX0_behindDeed_37 : decode cX0_behindDeed 37 = .ok (.lload_n 2, 1) := by decide +kernel
theorem dX0_behindDeed_38 : decode cX0_behindDeed 38 = .ok (.iload 6, 2) := by decide +kernel
theorem dX0_behindDeed_40 : decode cX0_behindDeed 40 = .ok (.invokestatic 91, 3) := by decide +kernel
theorem dX0_behindDeed_43 : decode cX0_behindDeed 43 = .ok (.iadd, 1) := by decide +kernel
theorem dX0_behindDeed_44 : decode cX0_behindDeed 44 = .ok (.invokestatic 191, 3) := by decide +kernel
theorem dX0_behindDeed_47 : decode cX0_behindDeed 47 = .ok (.lstore 4, 2) := by decide +kernel
theorem dX0_behindDeed_49 : decode cX0_behindDeed 49 = .ok (.iinc 6 1, 3) := by decide +kernel
theorem dX0_behindDeed_52 : decode cX0_behindDeed 52 = .ok (.goto (-46), 3) := by decide +kernel
theorem dX0_behindDeed_55 : decode cX0_behindDeed 55 = .ok (.lload 4, 2) := by decide +kernel
theorem dX0_behindDeed_57 : decode cX0_behindDeed 57 = .ok (.lreturn, 1) := by decide +kernel
set_option maxRecDepth 20000 in
theorem ggX0_fewestTurns_X0_isRightWithin : GoodIn wsX0_fewestTurns wsX0_isRightWithin := goodIn_r _ [4, 5, 6, 7, 3, 8, 9, 10, 11, 12, 13, 14, 15, 16, 17, 18, 19, 20, 21, 22, 23, 24, 25, 26, 27, 28, 29, 30, 31, 32, 33, 34, 35, 36, 37, 38, 39, 40, 41, 42, 43, 1, 2] (by decide +kernel) (by decide +kernel)
set_option maxRecDepth 20000 in
theorem gX0_fewestTurns_X0_isRightWithin : GoodIn wsX0_fewestTurns (va_wsS RX0 137 yX0_isRightWithin wsX0_isRightWithin) := goodIn_app (goodIn_of _ (by decide +kernel)) ggX0_fewestTurns_X0_isRightWithin
theorem dX0_fewestTurns_0 : decode cX0_fewestTurns 0 = .ok (.iconst 0, 1) := by decide +kernel
theorem dX0_fewestTurns_1 : decode cX0_fewestTurns 1 = .ok (.istore_n 3, 1) := by decide +kernel
theorem dX0_fewestTurns_2 : decode cX0_fewestTurns 2 = .ok (.iload_n 3, 1) := by decide +kernel
theorem dX0_fewestTurns_3 : decode cX0_fewestTurns 3 = .ok (.iload_n 2, 1) := by decide +kernel
theorem dX0_fewestTurns_4 : decode cX0_fewestTurns 4 = .ok (.if_icmp .gt 20, 3) := by decide +kernel
theorem dX0_fewestTurns_7 : decode cX0_fewestTurns 7 = .ok (.lload_n 0, 1) := by decide +kernel
theorem dX0_fewestTurns_8 : decode cX0_fewestTurns 8 = .ok (.iload_n 3, 1) := by decide +kernel
theorem dX0_fewestTurns_9 : decode cX0_fewestTurns 9 = .ok (.iconst (-1), 1) := by decide +kernel
theorem dX0_fewestTurns_10 : decode cX0_fewestTurns 10 = .ok (.invokestatic 137, 3) := by decide +kernel
theorem dX0_fewestTurns_13 : decode cX0_fewestTurns 13 = .ok (.ifCond .eq 5, 3) := by decide +kernel
theorem dX0_fewestTurns_16 : decode cX0_fewestTurns 16 = .ok (.iload_n 3, 1) := by decide +kernel
theorem dX0_fewestTurns_17 : decode cX0_fewestTurns 17 = .ok (.ireturn, 1) := by decide +kernel
theorem dX0_fewestTurns_18 : decode cX0_fewestTurns 18 = .ok (.iinc 3 1, 3) := by decide +kernel
theorem dX0_fewestTurns_21 : decode cX0_fewestTurns 21 = .ok (.goto (-19), 3) := by decide +kernel
theorem dX0_fewestTurns_24 : decode cX0_fewestTurns 24 = .ok (.iconst (-1), 1) := by decide +kernel
theorem dX0_fewestTurns_25 : decode cX0_fewestTurns 25 = .ok (.ireturn, 1) := by decide +kernel
set_option maxRecDepth 20000 in
theorem ggX0_isRightWithin_X0_wrongCorners : GoodIn wsX0_isRightWithin wsX0_wrongCorners := goodIn_r _ [5, 6, 7, 4, 8, 9, 10, 11, 12, 13, 14, 15, 16, 17] (by decide +kernel) (by decide +kernel)
set_option maxRecDepth 20000 in
theorem gX0_isRightWithin_X0_wrongCorners : GoodIn wsX0_isRightWithin (va_wsS RX0 65 yX0_wrongCorners wsX0_wrongCorners) := goodIn_app (goodIn_of _ (by decide +kernel)) ggX0_isRightWithin_X0_wrongCorners
set_option maxRecDepth 20000 in
theorem ggX0_isRightWithin_X0_mostSetRight : GoodIn wsX0_isRightWithin wsX0_mostSetRight := goodIn_r _ [20] (by decide +kernel) (by decide +kernel)
set_option maxRecDepth 20000 in
theorem gX0_isRightWithin_X0_mostSetRight : GoodIn wsX0_isRightWithin (va_wsS RX0 195 yX0_mostSetRight wsX0_mostSetRight) := goodIn_app (goodIn_of _ (by decide +kernel)) ggX0_isRightWithin_X0_mostSetRight
set_option maxRecDepth 20000 in
theorem ggX0_isRightWithin_X0_isRightBeginning : GoodIn wsX0_isRightWithin wsX0_isRightBeginning := goodIn_r _ [23, 24, 25, 4, 26, 27, 28, 29, 30, 31, 32, 33, 34, 35, 12, 13, 14, 15, 16, 17, 36, 37, 38, 39, 40, 41, 42, 0, 1, 2, 3, 5, 6, 7, 8, 9, 10, 11, 18, 19, 20, 21, 22] (by decide +kernel) (by decide +kernel)
set_option maxRecDepth 20000 in
theorem gX0_isRightWithin_X0_isRightBeginning : GoodIn wsX0_isRightWithin (va_wsS RX0 198 yX0_isRightBeginning wsX0_isRightBeginning) := goodIn_app (goodIn_of _ (by decide +kernel)) ggX0_isRightWithin_X0_isRightBeginning
theorem dX0_isRightWithin_0 : decode cX0_isRightWithin 0 = .ok (.lload_n 0, 1) := by decide +kernel
theorem dX0_isRightWithin_1 : decode cX0_isRightWithin 1 = .ok (.ldc2_w 9, 3) := by decide +kernel
theorem dX0_isRightWithin_4 : decode cX0_isRightWithin 4 = .ok (.lcmp, 1) := by decide +kernel
theorem dX0_isRightWithin_5 : decode cX0_isRightWithin 5 = .ok (.ifCond .ne 5, 3) := by decide +kernel
theorem dX0_isRightWithin_8 : decode cX0_isRightWithin 8 = .ok (.iconst 1, 1) := by decide +kernel
theorem dX0_isRightWithin_9 : decode cX0_isRightWithin 9 = .ok (.ireturn, 1) := by decide +kernel
theorem dX0_isRightWithin_10 : decode cX0_isRightWithin 10 = .ok (.iload_n 2, 1) := by decide +kernel
theorem dX0_isRightWithin_11 : decode cX0_isRightWithin 11 = .ok (.ifCond .le 14, 3) := by decide +kernel
theorem dX0_isRightWithin_14 : decode cX0_isRightWithin 14 = .ok (.lload_n 0, 1) := by decide +kernel
theorem dX0_isRightWithin_15 : decode cX0_isRightWithin 15 = .ok (.invokestatic 65, 3) := by decide +kernel
theorem dX0_isRightWithin_18 : decode cX0_isRightWithin 18 = .ok (.iload_n 2, 1) := by decide +kernel
theorem dX0_isRightWithin_19 : decode cX0_isRightWithin 19 = .ok (.invokestatic 195, 3) := by decide +kernel
theorem dX0_isRightWithin_22 : decode cX0_isRightWithin 22 = .ok (.if_icmp .le 5, 3) := by decide +kernel
theorem dX0_isRightWithin_25 : decode cX0_isRightWithin 25 = .ok (.iconst 0, 1) := by decide +kernel
theorem dX0_isRightWithin_26 : decode cX0_isRightWithin 26 = .ok (.ireturn, 1) := by decide +kernel
theorem dX0_isRightWithin_27 : decode cX0_isRightWithin 27 = .ok (.iconst 0, 1) := by decide +kernel
theorem dX0_isRightWithin_28 : decode cX0_isRightWithin 28 = .ok (.istore 4, 2) := by decide +kernel
theorem dX0_isRightWithin_30 : decode cX0_isRightWithin 30 = .ok (.iload 4, 2) := by decide +kernel
theorem dX0_isRightWithin_32 : decode cX0_isRightWithin 32 = .ok (.iconst 3, 1) := by decide +kernel
theorem dX0_isRightWithin_33 : decode cX0_isRightWithin 33 = .ok (.if_icmp .ge 27, 3) := by decide +kernel
theorem dX0_isRightWithin_36 : decode cX0_isRightWithin 36 = .ok (.iload 4, 2) := by decide +kernel
theorem dX0_isRightWithin_38 : decode cX0_isRightWithin 38 = .ok (.iload_n 3, 1) := by decide +kernel
theorem dX0_isRightWithin_39 : decode cX0_isRightWithin 39 = .ok (.if_icmp .eq 15, 3) := by decide +kernel
theorem dX0_isRightWithin_42 : decode cX0_isRightWithin 42 = .ok (.lload_n 0, 1) := by decide +kernel
theorem dX0_isRightWithin_43 : decode cX0_isRightWithin 43 = .ok (.iload 4, 2) := by decide +kernel
theorem dX0_isRightWithin_45 : decode cX0_isRightWithin 45 = .ok (.iload_n 2, 1) := by decide +kernel
theorem dX0_isRightWithin_46 : decode cX0_isRightWithin 46 = .ok (.invokestatic 198, 3) := by decide +kernel
theorem dX0_isRightWithin_49 : decode cX0_isRightWithin 49 = .ok (.ifCond .eq 5, 3) := by decide +kernel
theorem dX0_isRightWithin_52 : decode cX0_isRightWithin 52 = .ok (.iconst 1, 1) := by decide +kernel
theorem dX0_isRightWithin_53 : decode cX0_isRightWithin 53 = .ok (.ireturn, 1) := by decide +kernel
theorem dX0_isRightWithin_54 : decode cX0_isRightWithin 54 = .ok (.iinc 4 1, 3) := by decide +kernel
theorem dX0_isRightWithin_57 : decode cX0_isRightWithin 57 = .ok (.goto (-27), 3) := by decide +kernel
theorem dX0_isRightWithin_60 : decode cX0_isRightWithin 60 = .ok (.iconst 0, 1) := by decide +kernel
theorem dX0_isRightWithin_61 : decode cX0_isRightWithin 61 = .ok (.ireturn, 1) := by decide +kernel
set_option maxRecDepth 20000 in
theorem ggX0_isRightBeginning_X0_quarterTurned : GoodIn wsX0_isRightBeginning wsX0_quarterTurned := goodIn_r _ [4, 5, 6, 3, 7, 8, 9, 10, 11, 12, 13, 14, 15, 16, 17, 18, 19, 20, 21, 22, 23, 24] (by decide +kernel) (by decide +kernel)
set_option maxRecDepth 20000 in
theorem gX0_isRightBeginning_X0_quarterTurned : GoodIn wsX0_isRightBeginning (va_wsS RX0 179 yX0_quarterTurned wsX0_quarterTurned) := goodIn_app (goodIn_of _ (by decide +kernel)) ggX0_isRightBeginning_X0_quarterTurned
set_option maxRecDepth 20000 in
theorem ggX0_isRightBeginning_X0_isRightWithin : GoodIn wsX0_isRightBeginning wsX0_isRightWithin := goodIn_r _ [27, 28, 29, 30, 3, 31, 32, 33, 34, 35, 36, 37, 14, 15, 16, 17, 18, 19, 38, 39, 40, 41, 42, 0, 1, 2, 4, 5, 6, 7, 8, 9, 10, 11, 12, 13, 20, 21, 22, 23, 24, 25, 26] (by decide +kernel) (by decide +kernel)
set_option maxRecDepth 20000 in
theorem gX0_isRightBeginning_X0_isRightWithin : GoodIn wsX0_isRightBeginning (va_wsS RX0 137 yX0_isRightWithin wsX0_isRightWithin) := goodIn_app (goodIn_of _ (by decide +kernel)) ggX0_isRightBeginning_X0_isRightWithin
theorem dX0_isRightBeginning_0 : decode cX0_isRightBeginning 0 = .ok (.lload_n 0, 1) := by decide +kernel
theorem dX0_isRightBeginning_1 : decode cX0_isRightBeginning 1 = .ok (.lstore 4, 2) := by decide +kernel
theorem dX0_isRightBeginning_3 : decode cX0_isRightBeginning 3 = .ok (.iconst 1, 1) := by decide +kernel
theorem dX0_isRightBeginning_4 : decode cX0_isRightBeginning 4 = .ok (.istore 6, 2) := by decide +kernel
theorem dX0_isRightBeginning_6 : decode cX0_isRightBeginning 6 = .ok (.iload 6, 2) := by decide +kernel
theorem dX0_isRightBeginning_8 : decode cX0_isRightBeginning 8 = .ok (.iconst 4, 1) := by decide +kernel
theorem dX0_isRightBeginning_9 : decode cX0_isRightBeginning 9 = .ok (.if_icmp .ge 31, 3) := by decide +kernel
theorem dX0_isRightBeginning_12 : decode cX0_isRightBeginning 12 = .ok (.lload 4, 2) := by decide +kernel
theorem dX0_isRightBeginning_14 : decode cX0_isRightBeginning 14 = .ok (.iload_n 2, 1) := by decide +kernel
theorem dX0_isRightBeginning_15 : decode cX0_isRightBeginning 15 = .ok (.invokestatic 179, 3) := by decide +kernel
theorem dX0_isRightBeginning_18 : decode cX0_isRightBeginning 18 = .ok (.lstore 4, 2) := by decide +kernel
theorem dX0_isRightBeginning_20 : decode cX0_isRightBeginning 20 = .ok (.lload 4, 2) := by decide +kernel
theorem dX0_isRightBeginning_22 : decode cX0_isRightBeginning 22 = .ok (.iload_n 3, 1) := by decide +kernel
theorem dX0_isRightBeginning_23 : decode cX0_isRightBeginning 23 = .ok (.iconst 1, 1) := by decide +kernel
theorem dX0_isRightBeginning_24 : decode cX0_isRightBeginning 24 = .ok (.isub, 1) := by decide +kernel
theorem dX0_isRightBeginning_25 : decode cX0_isRightBeginning 25 = .ok (.iload_n 2, 1) := by decide +kernel
theorem dX0_isRightBeginning_26 : decode cX0_isRightBeginning 26 = .ok (.invokestatic 137, 3) := by decide +kernel
theorem dX0_isRightBeginning_29 : decode cX0_isRightBeginning 29 = .ok (.ifCond .eq 5, 3) := by decide +kernel
theorem dX0_isRightBeginning_32 : decode cX0_isRightBeginning 32 = .ok (.iconst 1, 1) := by decide +kernel
theorem dX0_isRightBeginning_33 : decode cX0_isRightBeginning 33 = .ok (.ireturn, 1) := by decide +kernel
theorem dX0_isRightBeginning_34 : decode cX0_isRightBeginning 34 = .ok (.iinc 6 1, 3) := by decide +kernel
theorem dX0_isRightBeginning_37 : decode cX0_isRightBeginning 37 = .ok (.goto (-31), 3) := by decide +kernel
theorem dX0_isRightBeginning_40 : decode cX0_isRightBeginning 40 = .ok (.iconst 0, 1) := by decide +kernel
theorem dX0_isRightBeginning_41 : decode cX0_isRightBeginning 41 = .ok (.ireturn, 1) := by decide +kernel
theorem dX0_mostSetRight_0 : decode cX0_mostSetRight 0 = .ok (.iload_n 0, 1) := by decide +kernel
theorem dX0_mostSetRight_1 : decode cX0_mostSetRight 1 = .ok (.iconst 1, 1) := by decide +kernel
theorem dX0_mostSetRight_2 : decode cX0_mostSetRight 2 = .ok (.if_icmp .ne 5, 3) := by decide +kernel
theorem dX0_mostSetRight_5 : decode cX0_mostSetRight 5 = .ok (.iconst 4, 1) := by decide +kernel
theorem dX0_mostSetRight_6 : decode cX0_mostSetRight 6 = .ok (.ireturn, 1) := by decide +kernel
theorem dX0_mostSetRight_7 : decode cX0_mostSetRight 7 = .ok (.iload_n 0, 1) := by decide +kernel
theorem dX0_mostSetRight_8 : decode cX0_mostSetRight 8 = .ok (.iconst 2, 1) := by decide +kernel
theorem dX0_mostSetRight_9 : decode cX0_mostSetRight 9 = .ok (.if_icmp .ne 8, 3) := by decide +kernel
theorem dX0_mostSetRight_12 : decode cX0_mostSetRight 12 = .ok (.bipush 6, 2) := by decide +kernel
theorem dX0_mostSetRight_14 : decode cX0_mostSetRight 14 = .ok (.goto 5, 3) := by decide +kernel
theorem dX0_mostSetRight_17 : decode cX0_mostSetRight 17 = .ok (.bipush 8, 2) := by decide +kernel
theorem dX0_mostSetRight_19 : decode cX0_mostSetRight 19 = .ok (.ireturn, 1) := by decide +kernel
